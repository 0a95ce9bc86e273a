theorem d_Charts_init_0 : decode b_Charts_init 0 = .ok (.aload_n 0, 1) := by decide +kernel
theorem d_Charts_init_1 : decode b_Charts_init 1 = .ok (.invokespecial 3, 3) := by decide +kernel
theorem d_Charts_init_4 : decode b_Charts_init 4 = .ok (.aload_n 0, 1) := by decide +kernel
theorem d_Charts_init_5 : decode b_Charts_init 5 = .ok (.bipush 12, 2) := by decide +kernel
theorem d_Charts_init_7 : decode b_Charts_init 7 = .ok (.newarray .int, 2) := by decide +kernel
theorem d_Charts_init_9 : decode b_Charts_init 9 = .ok (.putfield 11, 3) := by decide +kernel
theorem d_Charts_init_12 : decode b_Charts_init 12 = .ok (.aload_n 0, 1) := by decide +kernel
theorem d_Charts_init_13 : decode b_Charts_init 13 = .ok (.bipush 12, 2) := by decide +kernel
theorem d_Charts_init_15 : decode b_Charts_init 15 = .ok (.newarray .int, 2) := by decide +kernel
theorem d_Charts_init_17 : decode b_Charts_init 17 = .ok (.putfield 15, 3) := by decide +kernel
theorem d_Charts_init_20 : decode b_Charts_init 20 = .ok (.return_, 1) := by decide +kernel
theorem d_Charts_isFull_0 : decode b_Charts_isFull 0 = .ok (.aload_n 0, 1) := by decide +kernel
theorem d_Charts_isFull_1 : decode b_Charts_isFull 1 = .ok (.getfield 18, 3) := by decide +kernel
theorem d_Charts_isFull_4 : decode b_Charts_isFull 4 = .ok (.bipush 12, 2) := by decide +kernel
theorem d_Charts_isFull_6 : decode b_Charts_isFull 6 = .ok (.if_icmp .lt 7, 3) := by decide +kernel
theorem d_Charts_isFull_9 : decode b_Charts_isFull 9 = .ok (.iconst 1, 1) := by decide +kernel
theorem d_Charts_isFull_10 : decode b_Charts_isFull 10 = .ok (.goto 4, 3) := by decide +kernel
theorem d_Charts_isFull_13 : decode b_Charts_isFull 13 = .ok (.iconst 0, 1) := by decide +kernel
theorem d_Charts_isFull_14 : decode b_Charts_isFull 14 = .ok (.ireturn, 1) := by decide +kernel
theorem d_Charts_find_0 : decode b_Charts_find 0 = .ok (.iconst 0, 1) := by decide +kernel
theorem d_Charts_find_1 : decode b_Charts_find 1 = .ok (.istore_n 3, 1) := by decide +kernel
theorem d_Charts_find_2 : decode b_Charts_find 2 = .ok (.iload_n 3, 1) := by decide +kernel
theorem d_Charts_find_3 : decode b_Charts_find 3 = .ok (.aload_n 0, 1) := by decide +kernel
theorem d_Charts_find_4 : decode b_Charts_find 4 = .ok (.getfield 18, 3) := by decide +kernel
theorem d_Charts_find_7 : decode b_Charts_find 7 = .ok (.if_icmp .ge 31, 3) := by decide +kernel
theorem d_Charts_find_10 : decode b_Charts_find 10 = .ok (.aload_n 0, 1) := by decide +kernel
theorem d_Charts_find_11 : decode b_Charts_find 11 = .ok (.getfield 11, 3) := by decide +kernel
theorem d_Charts_find_14 : decode b_Charts_find 14 = .ok (.iload_n 3, 1) := by decide +kernel
theorem d_Charts_find_15 : decode b_Charts_find 15 = .ok (.iaload, 1) := by decide +kernel
theorem d_Charts_find_16 : decode b_Charts_find 16 = .ok (.iload_n 1, 1) := by decide +kernel
theorem d_Charts_find_17 : decode b_Charts_find 17 = .ok (.if_icmp .ne 15, 3) := by decide +kernel
theorem d_Charts_find_20 : decode b_Charts_find 20 = .ok (.aload_n 0, 1) := by decide +kernel
theorem d_Charts_find_21 : decode b_Charts_find 21 = .ok (.getfield 15, 3) := by decide +kernel
theorem d_Charts_find_24 : decode b_Charts_find 24 = .ok (.iload_n 3, 1) := by decide +kernel
theorem d_Charts_find_25 : decode b_Charts_find 25 = .ok (.iaload, 1) := by decide +kernel
theorem d_Charts_find_26 : decode b_Charts_find 26 = .ok (.iload_n 2, 1) := by decide +kernel
theorem d_Charts_find_27 : decode b_Charts_find 27 = .ok (.if_icmp .ne 5, 3) := by decide +kernel
theorem d_Charts_find_30 : decode b_Charts_find 30 = .ok (.iload_n 3, 1) := by decide +kernel
theorem d_Charts_find_31 : decode b_Charts_find 31 = .ok (.ireturn, 1) := by decide +kernel
theorem d_Charts_find_32 : decode b_Charts_find 32 = .ok (.iinc 3 1, 3) := by decide +kernel
theorem d_Charts_find_35 : decode b_Charts_find 35 = .ok (.goto (-33), 3) := by decide +kernel
theorem d_Charts_find_38 : decode b_Charts_find 38 = .ok (.iconst (-1), 1) := by decide +kernel
theorem d_Charts_find_39 : decode b_Charts_find 39 = .ok (.ireturn, 1) := by decide +kernel
theorem d_Charts_add_0 : decode b_Charts_add 0 = .ok (.aload_n 0, 1) := by decide +kernel
theorem d_Charts_add_1 : decode b_Charts_add 1 = .ok (.getfield 18, 3) := by decide +kernel
theorem d_Charts_add_4 : decode b_Charts_add 4 = .ok (.bipush 12, 2) := by decide +kernel
theorem d_Charts_add_6 : decode b_Charts_add 6 = .ok (.if_icmp .ge 33, 3) := by decide +kernel
theorem d_Charts_add_9 : decode b_Charts_add 9 = .ok (.aload_n 0, 1) := by decide +kernel
theorem d_Charts_add_10 : decode b_Charts_add 10 = .ok (.getfield 11, 3) := by decide +kernel
theorem d_Charts_add_13 : decode b_Charts_add 13 = .ok (.aload_n 0, 1) := by decide +kernel
theorem d_Charts_add_14 : decode b_Charts_add 14 = .ok (.getfield 18, 3) := by decide +kernel
theorem d_Charts_add_17 : decode b_Charts_add 17 = .ok (.iload_n 1, 1) := by decide +kernel
theorem d_Charts_add_18 : decode b_Charts_add 18 = .ok (.iastore, 1) := by decide +kernel
theorem d_Charts_add_19 : decode b_Charts_add 19 = .ok (.aload_n 0, 1) := by decide +kernel
theorem d_Charts_add_20 : decode b_Charts_add 20 = .ok (.getfield 15, 3) := by decide +kernel
theorem d_Charts_add_23 : decode b_Charts_add 23 = .ok (.aload_n 0, 1) := by decide +kernel
theorem d_Charts_add_24 : decode b_Charts_add 24 = .ok (.getfield 18, 3) := by decide +kernel
theorem d_Charts_add_27 : decode b_Charts_add 27 = .ok (.iload_n 2, 1) := by decide +kernel
theorem d_Charts_add_28 : decode b_Charts_add 28 = .ok (.iastore, 1) := by decide +kernel
theorem d_Charts_add_29 : decode b_Charts_add 29 = .ok (.aload_n 0, 1) := by decide +kernel
theorem d_Charts_add_30 : decode b_Charts_add 30 = .ok (.dup, 1) := by decide +kernel
theorem d_Charts_add_31 : decode b_Charts_add 31 = .ok (.getfield 18, 3) := by decide +kernel
theorem d_Charts_add_34 : decode b_Charts_add 34 = .ok (.iconst 1, 1) := by decide +kernel
theorem d_Charts_add_35 : decode b_Charts_add 35 = .ok (.iadd, 1) := by decide +kernel
theorem d_Charts_add_36 : decode b_Charts_add 36 = .ok (.putfield 18, 3) := by decide +kernel
theorem d_Charts_add_39 : decode b_Charts_add 39 = .ok (.return_, 1) := by decide +kernel
theorem d_Charts_remove_0 : decode b_Charts_remove 0 = .ok (.iload_n 1, 1) := by decide +kernel
theorem d_Charts_remove_1 : decode b_Charts_remove 1 = .ok (.ifCond .lt 51, 3) := by decide +kernel
theorem d_Charts_remove_4 : decode b_Charts_remove 4 = .ok (.iload_n 1, 1) := by decide +kernel
theorem d_Charts_remove_5 : decode b_Charts_remove 5 = .ok (.aload_n 0, 1) := by decide +kernel
theorem d_Charts_remove_6 : decode b_Charts_remove 6 = .ok (.getfield 18, 3) := by decide +kernel
theorem d_Charts_remove_9 : decode b_Charts_remove 9 = .ok (.if_icmp .ge 43, 3) := by decide +kernel
theorem d_Charts_remove_12 : decode b_Charts_remove 12 = .ok (.aload_n 0, 1) := by decide +kernel
theorem d_Charts_remove_13 : decode b_Charts_remove 13 = .ok (.dup, 1) := by decide +kernel
theorem d_Charts_remove_14 : decode b_Charts_remove 14 = .ok (.getfield 18, 3) := by decide +kernel
theorem d_Charts_remove_17 : decode b_Charts_remove 17 = .ok (.iconst 1, 1) := by decide +kernel
theorem d_Charts_remove_18 : decode b_Charts_remove 18 = .ok (.isub, 1) := by decide +kernel
theorem d_Charts_remove_19 : decode b_Charts_remove 19 = .ok (.putfield 18, 3) := by decide +kernel
theorem d_Charts_remove_22 : decode b_Charts_remove 22 = .ok (.aload_n 0, 1) := by decide +kernel
theorem d_Charts_remove_23 : decode b_Charts_remove 23 = .ok (.getfield 11, 3) := by decide +kernel
theorem d_Charts_remove_26 : decode b_Charts_remove 26 = .ok (.iload_n 1, 1) := by decide +kernel
theorem d_Charts_remove_27 : decode b_Charts_remove 27 = .ok (.aload_n 0, 1) := by decide +kernel
theorem d_Charts_remove_28 : decode b_Charts_remove 28 = .ok (.getfield 11, 3) := by decide +kernel
theorem d_Charts_remove_31 : decode b_Charts_remove 31 = .ok (.aload_n 0, 1) := by decide +kernel
theorem d_Charts_remove_32 : decode b_Charts_remove 32 = .ok (.getfield 18, 3) := by decide +kernel
theorem d_Charts_remove_35 : decode b_Charts_remove 35 = .ok (.iaload, 1) := by decide +kernel
theorem d_Charts_remove_36 : decode b_Charts_remove 36 = .ok (.iastore, 1) := by decide +kernel
theorem d_Charts_remove_37 : decode b_Charts_remove 37 = .ok (.aload_n 0, 1) := by decide +kernel
theorem d_Charts_remove_38 : decode b_Charts_remove 38 = .ok (.getfield 15, 3) := by decide +kernel
theorem d_Charts_remove_41 : decode b_Charts_remove 41 = .ok (.iload_n 1, 1) := by decide +kernel
theorem d_Charts_remove_42 : decode b_Charts_remove 42 = .ok (.aload_n 0, 1) := by decide +kernel
theorem d_Charts_remove_43 : decode b_Charts_remove 43 = .ok (.getfield 15, 3) := by decide +kernel
theorem d_Charts_remove_46 : decode b_Charts_remove 46 = .ok (.aload_n 0, 1) := by decide +kernel
theorem d_Charts_remove_47 : decode b_Charts_remove 47 = .ok (.getfield 18, 3) := by decide +kernel
theorem d_Charts_remove_50 : decode b_Charts_remove 50 = .ok (.iaload, 1) := by decide +kernel
theorem d_Charts_remove_51 : decode b_Charts_remove 51 = .ok (.iastore, 1) := by decide +kernel
theorem d_Charts_remove_52 : decode b_Charts_remove 52 = .ok (.return_, 1) := by decide +kernel
theorem d_Days_init_0 : decode b_Days_init 0 = .ok (.aload_n 0, 1) := by decide +kernel
theorem d_Days_init_1 : decode b_Days_init 1 = .ok (.invokespecial 3, 3) := by decide +kernel
theorem d_Days_init_4 : decode b_Days_init 4 = .ok (.aload_n 0, 1) := by decide +kernel
theorem d_Days_init_5 : decode b_Days_init 5 = .ok (.bipush 30, 2) := by decide +kernel
theorem d_Days_init_7 : decode b_Days_init 7 = .ok (.newarray .int, 2) := by decide +kernel
theorem d_Days_init_9 : decode b_Days_init 9 = .ok (.putfield 11, 3) := by decide +kernel
theorem d_Days_init_12 : decode b_Days_init 12 = .ok (.aload_n 0, 1) := by decide +kernel
theorem d_Days_init_13 : decode b_Days_init 13 = .ok (.bipush 30, 2) := by decide +kernel
theorem d_Days_init_15 : decode b_Days_init 15 = .ok (.newarray .int, 2) := by decide +kernel
theorem d_Days_init_17 : decode b_Days_init 17 = .ok (.putfield 15, 3) := by decide +kernel
theorem d_Days_init_20 : decode b_Days_init 20 = .ok (.return_, 1) := by decide +kernel
theorem d_Days_isFull_0 : decode b_Days_isFull 0 = .ok (.aload_n 0, 1) := by decide +kernel
theorem d_Days_isFull_1 : decode b_Days_isFull 1 = .ok (.getfield 18, 3) := by decide +kernel
theorem d_Days_isFull_4 : decode b_Days_isFull 4 = .ok (.bipush 30, 2) := by decide +kernel
theorem d_Days_isFull_6 : decode b_Days_isFull 6 = .ok (.if_icmp .lt 7, 3) := by decide +kernel
theorem d_Days_isFull_9 : decode b_Days_isFull 9 = .ok (.iconst 1, 1) := by decide +kernel
theorem d_Days_isFull_10 : decode b_Days_isFull 10 = .ok (.goto 4, 3) := by decide +kernel
theorem d_Days_isFull_13 : decode b_Days_isFull 13 = .ok (.iconst 0, 1) := by decide +kernel
theorem d_Days_isFull_14 : decode b_Days_isFull 14 = .ok (.ireturn, 1) := by decide +kernel
theorem d_Days_canFollow_0 : decode b_Days_canFollow 0 = .ok (.aload_n 0, 1) := by decide +kernel
theorem d_Days_canFollow_1 : decode b_Days_canFollow 1 = .ok (.getfield 18, 3) := by decide +kernel
theorem d_Days_canFollow_4 : decode b_Days_canFollow 4 = .ok (.ifCond .le 26, 3) := by decide +kernel
theorem d_Days_canFollow_7 : decode b_Days_canFollow 7 = .ok (.aload_n 0, 1) := by decide +kernel
theorem d_Days_canFollow_8 : decode b_Days_canFollow 8 = .ok (.getfield 18, 3) := by decide +kernel
theorem d_Days_canFollow_11 : decode b_Days_canFollow 11 = .ok (.bipush 30, 2) := by decide +kernel
theorem d_Days_canFollow_13 : decode b_Days_canFollow 13 = .ok (.if_icmp .gt 17, 3) := by decide +kernel
theorem d_Days_canFollow_16 : decode b_Days_canFollow 16 = .ok (.aload_n 0, 1) := by decide +kernel
theorem d_Days_canFollow_17 : decode b_Days_canFollow 17 = .ok (.getfield 11, 3) := by decide +kernel
theorem d_Days_canFollow_20 : decode b_Days_canFollow 20 = .ok (.aload_n 0, 1) := by decide +kernel
theorem d_Days_canFollow_21 : decode b_Days_canFollow 21 = .ok (.getfield 18, 3) := by decide +kernel
theorem d_Days_canFollow_24 : decode b_Days_canFollow 24 = .ok (.iconst 1, 1) := by decide +kernel
theorem d_Days_canFollow_25 : decode b_Days_canFollow 25 = .ok (.isub, 1) := by decide +kernel
theorem d_Days_canFollow_26 : decode b_Days_canFollow 26 = .ok (.iaload, 1) := by decide +kernel
theorem d_Days_canFollow_27 : decode b_Days_canFollow 27 = .ok (.goto 4, 3) := by decide +kernel
theorem d_Days_canFollow_30 : decode b_Days_canFollow 30 = .ok (.iconst (-1), 1) := by decide +kernel
theorem d_Days_canFollow_31 : decode b_Days_canFollow 31 = .ok (.istore_n 2, 1) := by decide +kernel
theorem d_Days_canFollow_32 : decode b_Days_canFollow 32 = .ok (.iload_n 1, 1) := by decide +kernel
theorem d_Days_canFollow_33 : decode b_Days_canFollow 33 = .ok (.iload_n 2, 1) := by decide +kernel
theorem d_Days_canFollow_34 : decode b_Days_canFollow 34 = .ok (.if_icmp .le 14, 3) := by decide +kernel
theorem d_Days_canFollow_37 : decode b_Days_canFollow 37 = .ok (.iload_n 1, 1) := by decide +kernel
theorem d_Days_canFollow_38 : decode b_Days_canFollow 38 = .ok (.sipush 10000, 3) := by decide +kernel
theorem d_Days_canFollow_41 : decode b_Days_canFollow 41 = .ok (.if_icmp .gt 7, 3) := by decide +kernel
theorem d_Days_canFollow_44 : decode b_Days_canFollow 44 = .ok (.iconst 1, 1) := by decide +kernel
theorem d_Days_canFollow_45 : decode b_Days_canFollow 45 = .ok (.goto 4, 3) := by decide +kernel
theorem d_Days_canFollow_48 : decode b_Days_canFollow 48 = .ok (.iconst 0, 1) := by decide +kernel
theorem d_Days_canFollow_49 : decode b_Days_canFollow 49 = .ok (.ireturn, 1) := by decide +kernel
theorem d_Days_keep_0 : decode b_Days_keep 0 = .ok (.aload_n 0, 1) := by decide +kernel
theorem d_Days_keep_1 : decode b_Days_keep 1 = .ok (.getfield 18, 3) := by decide +kernel
theorem d_Days_keep_4 : decode b_Days_keep 4 = .ok (.bipush 30, 2) := by decide +kernel
theorem d_Days_keep_6 : decode b_Days_keep 6 = .ok (.if_icmp .ge 33, 3) := by decide +kernel
theorem d_Days_keep_9 : decode b_Days_keep 9 = .ok (.aload_n 0, 1) := by decide +kernel
theorem d_Days_keep_10 : decode b_Days_keep 10 = .ok (.getfield 11, 3) := by decide +kernel
theorem d_Days_keep_13 : decode b_Days_keep 13 = .ok (.aload_n 0, 1) := by decide +kernel
theorem d_Days_keep_14 : decode b_Days_keep 14 = .ok (.getfield 18, 3) := by decide +kernel
theorem d_Days_keep_17 : decode b_Days_keep 17 = .ok (.iload_n 1, 1) := by decide +kernel
theorem d_Days_keep_18 : decode b_Days_keep 18 = .ok (.iastore, 1) := by decide +kernel
theorem d_Days_keep_19 : decode b_Days_keep 19 = .ok (.aload_n 0, 1) := by decide +kernel
theorem d_Days_keep_20 : decode b_Days_keep 20 = .ok (.getfield 15, 3) := by decide +kernel
theorem d_Days_keep_23 : decode b_Days_keep 23 = .ok (.aload_n 0, 1) := by decide +kernel
theorem d_Days_keep_24 : decode b_Days_keep 24 = .ok (.getfield 18, 3) := by decide +kernel
theorem d_Days_keep_27 : decode b_Days_keep 27 = .ok (.iload_n 2, 1) := by decide +kernel
theorem d_Days_keep_28 : decode b_Days_keep 28 = .ok (.iastore, 1) := by decide +kernel
theorem d_Days_keep_29 : decode b_Days_keep 29 = .ok (.aload_n 0, 1) := by decide +kernel
theorem d_Days_keep_30 : decode b_Days_keep 30 = .ok (.dup, 1) := by decide +kernel
theorem d_Days_keep_31 : decode b_Days_keep 31 = .ok (.getfield 18, 3) := by decide +kernel
theorem d_Days_keep_34 : decode b_Days_keep 34 = .ok (.iconst 1, 1) := by decide +kernel
theorem d_Days_keep_35 : decode b_Days_keep 35 = .ok (.iadd, 1) := by decide +kernel
theorem d_Days_keep_36 : decode b_Days_keep 36 = .ok (.putfield 18, 3) := by decide +kernel
theorem d_Days_keep_39 : decode b_Days_keep 39 = .ok (.return_, 1) := by decide +kernel
theorem d_Fraction_commonOf_0 : decode b_Fraction_commonOf 0 = .ok (.lload_n 0, 1) := by decide +kernel
theorem d_Fraction_commonOf_1 : decode b_Fraction_commonOf 1 = .ok (.lstore 4, 2) := by decide +kernel
theorem d_Fraction_commonOf_3 : decode b_Fraction_commonOf 3 = .ok (.lload_n 2, 1) := by decide +kernel
theorem d_Fraction_commonOf_4 : decode b_Fraction_commonOf 4 = .ok (.lstore 6, 2) := by decide +kernel
theorem d_Fraction_commonOf_6 : decode b_Fraction_commonOf 6 = .ok (.iconst 0, 1) := by decide +kernel
theorem d_Fraction_commonOf_7 : decode b_Fraction_commonOf 7 = .ok (.istore 8, 2) := by decide +kernel
theorem d_Fraction_commonOf_9 : decode b_Fraction_commonOf 9 = .ok (.iload 8, 2) := by decide +kernel
theorem d_Fraction_commonOf_11 : decode b_Fraction_commonOf 11 = .ok (.bipush 100, 2) := by decide +kernel
theorem d_Fraction_commonOf_13 : decode b_Fraction_commonOf 13 = .ok (.if_icmp .ge 31, 3) := by decide +kernel
theorem d_Fraction_commonOf_16 : decode b_Fraction_commonOf 16 = .ok (.lload 6, 2) := by decide +kernel
theorem d_Fraction_commonOf_18 : decode b_Fraction_commonOf 18 = .ok (.lconst 0, 1) := by decide +kernel
theorem d_Fraction_commonOf_19 : decode b_Fraction_commonOf 19 = .ok (.lcmp, 1) := by decide +kernel
theorem d_Fraction_commonOf_20 : decode b_Fraction_commonOf 20 = .ok (.ifCond .eq 24, 3) := by decide +kernel
theorem d_Fraction_commonOf_23 : decode b_Fraction_commonOf 23 = .ok (.lload 4, 2) := by decide +kernel
theorem d_Fraction_commonOf_25 : decode b_Fraction_commonOf 25 = .ok (.lload 6, 2) := by decide +kernel
theorem d_Fraction_commonOf_27 : decode b_Fraction_commonOf 27 = .ok (.lrem, 1) := by decide +kernel
theorem d_Fraction_commonOf_28 : decode b_Fraction_commonOf 28 = .ok (.lstore 9, 2) := by decide +kernel
theorem d_Fraction_commonOf_30 : decode b_Fraction_commonOf 30 = .ok (.lload 6, 2) := by decide +kernel
theorem d_Fraction_commonOf_32 : decode b_Fraction_commonOf 32 = .ok (.lstore 4, 2) := by decide +kernel
theorem d_Fraction_commonOf_34 : decode b_Fraction_commonOf 34 = .ok (.lload 9, 2) := by decide +kernel
theorem d_Fraction_commonOf_36 : decode b_Fraction_commonOf 36 = .ok (.lstore 6, 2) := by decide +kernel
theorem d_Fraction_commonOf_38 : decode b_Fraction_commonOf 38 = .ok (.iinc 8 1, 3) := by decide +kernel
theorem d_Fraction_commonOf_41 : decode b_Fraction_commonOf 41 = .ok (.goto (-32), 3) := by decide +kernel
theorem d_Fraction_commonOf_44 : decode b_Fraction_commonOf 44 = .ok (.lload 4, 2) := by decide +kernel
theorem d_Fraction_commonOf_46 : decode b_Fraction_commonOf 46 = .ok (.lreturn, 1) := by decide +kernel
theorem d_Fraction_become_0 : decode b_Fraction_become 0 = .ok (.lload_n 1, 1) := by decide +kernel
theorem d_Fraction_become_1 : decode b_Fraction_become 1 = .ok (.invokestatic 16, 3) := by decide +kernel
theorem d_Fraction_become_4 : decode b_Fraction_become 4 = .ok (.lload_n 3, 1) := by decide +kernel
theorem d_Fraction_become_5 : decode b_Fraction_become 5 = .ok (.invokestatic 22, 3) := by decide +kernel
theorem d_Fraction_become_8 : decode b_Fraction_become 8 = .ok (.lstore 5, 2) := by decide +kernel
theorem d_Fraction_become_10 : decode b_Fraction_become 10 = .ok (.lload 5, 2) := by decide +kernel
theorem d_Fraction_become_12 : decode b_Fraction_become 12 = .ok (.lconst 0, 1) := by decide +kernel
theorem d_Fraction_become_13 : decode b_Fraction_become 13 = .ok (.lcmp, 1) := by decide +kernel
theorem d_Fraction_become_14 : decode b_Fraction_become 14 = .ok (.ifCond .le 19, 3) := by decide +kernel
theorem d_Fraction_become_17 : decode b_Fraction_become 17 = .ok (.aload_n 0, 1) := by decide +kernel
theorem d_Fraction_become_18 : decode b_Fraction_become 18 = .ok (.lload_n 1, 1) := by decide +kernel
theorem d_Fraction_become_19 : decode b_Fraction_become 19 = .ok (.lload 5, 2) := by decide +kernel
theorem d_Fraction_become_21 : decode b_Fraction_become 21 = .ok (.ldiv, 1) := by decide +kernel
theorem d_Fraction_become_22 : decode b_Fraction_become 22 = .ok (.putfield 7, 3) := by decide +kernel
theorem d_Fraction_become_25 : decode b_Fraction_become 25 = .ok (.aload_n 0, 1) := by decide +kernel
theorem d_Fraction_become_26 : decode b_Fraction_become 26 = .ok (.lload_n 3, 1) := by decide +kernel
theorem d_Fraction_become_27 : decode b_Fraction_become 27 = .ok (.lload 5, 2) := by decide +kernel
theorem d_Fraction_become_29 : decode b_Fraction_become 29 = .ok (.ldiv, 1) := by decide +kernel
theorem d_Fraction_become_30 : decode b_Fraction_become 30 = .ok (.putfield 13, 3) := by decide +kernel
theorem d_Fraction_become_33 : decode b_Fraction_become 33 = .ok (.return_, 1) := by decide +kernel
theorem d_Days_fit_0 : decode b_Days_fit 0 = .ok (.lconst 0, 1) := by decide +kernel
theorem d_Days_fit_1 : decode b_Days_fit 1 = .ok (.lstore_n 2, 1) := by decide +kernel
theorem d_Days_fit_2 : decode b_Days_fit 2 = .ok (.lconst 0, 1) := by decide +kernel
theorem d_Days_fit_3 : decode b_Days_fit 3 = .ok (.lstore 4, 2) := by decide +kernel
theorem d_Days_fit_5 : decode b_Days_fit 5 = .ok (.lconst 0, 1) := by decide +kernel
theorem d_Days_fit_6 : decode b_Days_fit 6 = .ok (.lstore 6, 2) := by decide +kernel
theorem d_Days_fit_8 : decode b_Days_fit 8 = .ok (.lconst 0, 1) := by decide +kernel
theorem d_Days_fit_9 : decode b_Days_fit 9 = .ok (.lstore 8, 2) := by decide +kernel
theorem d_Days_fit_11 : decode b_Days_fit 11 = .ok (.iconst 0, 1) := by decide +kernel
theorem d_Days_fit_12 : decode b_Days_fit 12 = .ok (.istore 10, 2) := by decide +kernel
theorem d_Days_fit_14 : decode b_Days_fit 14 = .ok (.iload 10, 2) := by decide +kernel
theorem d_Days_fit_16 : decode b_Days_fit 16 = .ok (.aload_n 0, 1) := by decide +kernel
theorem d_Days_fit_17 : decode b_Days_fit 17 = .ok (.getfield 18, 3) := by decide +kernel
theorem d_Days_fit_20 : decode b_Days_fit 20 = .ok (.if_icmp .ge 63, 3) := by decide +kernel
theorem d_Days_fit_23 : decode b_Days_fit 23 = .ok (.aload_n 0, 1) := by decide +kernel
theorem d_Days_fit_24 : decode b_Days_fit 24 = .ok (.getfield 11, 3) := by decide +kernel
theorem d_Days_fit_27 : decode b_Days_fit 27 = .ok (.iload 10, 2) := by decide +kernel
theorem d_Days_fit_29 : decode b_Days_fit 29 = .ok (.iaload, 1) := by decide +kernel
theorem d_Days_fit_30 : decode b_Days_fit 30 = .ok (.i2l, 1) := by decide +kernel
theorem d_Days_fit_31 : decode b_Days_fit 31 = .ok (.lstore 11, 2) := by decide +kernel
theorem d_Days_fit_33 : decode b_Days_fit 33 = .ok (.lload_n 2, 1) := by decide +kernel
theorem d_Days_fit_34 : decode b_Days_fit 34 = .ok (.lload 11, 2) := by decide +kernel
theorem d_Days_fit_36 : decode b_Days_fit 36 = .ok (.ladd, 1) := by decide +kernel
theorem d_Days_fit_37 : decode b_Days_fit 37 = .ok (.lstore_n 2, 1) := by decide +kernel
theorem d_Days_fit_38 : decode b_Days_fit 38 = .ok (.lload 4, 2) := by decide +kernel
theorem d_Days_fit_40 : decode b_Days_fit 40 = .ok (.aload_n 0, 1) := by decide +kernel
theorem d_Days_fit_41 : decode b_Days_fit 41 = .ok (.getfield 15, 3) := by decide +kernel
theorem d_Days_fit_44 : decode b_Days_fit 44 = .ok (.iload 10, 2) := by decide +kernel
theorem d_Days_fit_46 : decode b_Days_fit 46 = .ok (.iaload, 1) := by decide +kernel
theorem d_Days_fit_47 : decode b_Days_fit 47 = .ok (.i2l, 1) := by decide +kernel
theorem d_Days_fit_48 : decode b_Days_fit 48 = .ok (.ladd, 1) := by decide +kernel
theorem d_Days_fit_49 : decode b_Days_fit 49 = .ok (.lstore 4, 2) := by decide +kernel
theorem d_Days_fit_51 : decode b_Days_fit 51 = .ok (.lload 6, 2) := by decide +kernel
theorem d_Days_fit_53 : decode b_Days_fit 53 = .ok (.lload 11, 2) := by decide +kernel
theorem d_Days_fit_55 : decode b_Days_fit 55 = .ok (.aload_n 0, 1) := by decide +kernel
theorem d_Days_fit_56 : decode b_Days_fit 56 = .ok (.getfield 15, 3) := by decide +kernel
theorem d_Days_fit_59 : decode b_Days_fit 59 = .ok (.iload 10, 2) := by decide +kernel
theorem d_Days_fit_61 : decode b_Days_fit 61 = .ok (.iaload, 1) := by decide +kernel
theorem d_Days_fit_62 : decode b_Days_fit 62 = .ok (.i2l, 1) := by decide +kernel
theorem d_Days_fit_63 : decode b_Days_fit 63 = .ok (.lmul, 1) := by decide +kernel
theorem d_Days_fit_64 : decode b_Days_fit 64 = .ok (.ladd, 1) := by decide +kernel
theorem d_Days_fit_65 : decode b_Days_fit 65 = .ok (.lstore 6, 2) := by decide +kernel
theorem d_Days_fit_67 : decode b_Days_fit 67 = .ok (.lload 8, 2) := by decide +kernel
theorem d_Days_fit_69 : decode b_Days_fit 69 = .ok (.lload 11, 2) := by decide +kernel
theorem d_Days_fit_71 : decode b_Days_fit 71 = .ok (.lload 11, 2) := by decide +kernel
theorem d_Days_fit_73 : decode b_Days_fit 73 = .ok (.lmul, 1) := by decide +kernel
theorem d_Days_fit_74 : decode b_Days_fit 74 = .ok (.ladd, 1) := by decide +kernel
theorem d_Days_fit_75 : decode b_Days_fit 75 = .ok (.lstore 8, 2) := by decide +kernel
theorem d_Days_fit_77 : decode b_Days_fit 77 = .ok (.iinc 10 1, 3) := by decide +kernel
theorem d_Days_fit_80 : decode b_Days_fit 80 = .ok (.goto (-66), 3) := by decide +kernel
theorem d_Days_fit_83 : decode b_Days_fit 83 = .ok (.aload_n 0, 1) := by decide +kernel
theorem d_Days_fit_84 : decode b_Days_fit 84 = .ok (.getfield 18, 3) := by decide +kernel
theorem d_Days_fit_87 : decode b_Days_fit 87 = .ok (.i2l, 1) := by decide +kernel
theorem d_Days_fit_88 : decode b_Days_fit 88 = .ok (.lload 8, 2) := by decide +kernel
theorem d_Days_fit_90 : decode b_Days_fit 90 = .ok (.lmul, 1) := by decide +kernel
theorem d_Days_fit_91 : decode b_Days_fit 91 = .ok (.lload_n 2, 1) := by decide +kernel
theorem d_Days_fit_92 : decode b_Days_fit 92 = .ok (.lload_n 2, 1) := by decide +kernel
theorem d_Days_fit_93 : decode b_Days_fit 93 = .ok (.lmul, 1) := by decide +kernel
theorem d_Days_fit_94 : decode b_Days_fit 94 = .ok (.lsub, 1) := by decide +kernel
theorem d_Days_fit_95 : decode b_Days_fit 95 = .ok (.lstore 10, 2) := by decide +kernel
theorem d_Days_fit_97 : decode b_Days_fit 97 = .ok (.aload_n 0, 1) := by decide +kernel
theorem d_Days_fit_98 : decode b_Days_fit 98 = .ok (.getfield 18, 3) := by decide +kernel
theorem d_Days_fit_101 : decode b_Days_fit 101 = .ok (.iconst 2, 1) := by decide +kernel
theorem d_Days_fit_102 : decode b_Days_fit 102 = .ok (.if_icmp .lt 10, 3) := by decide +kernel
theorem d_Days_fit_105 : decode b_Days_fit 105 = .ok (.lload 10, 2) := by decide +kernel
theorem d_Days_fit_107 : decode b_Days_fit 107 = .ok (.lconst 0, 1) := by decide +kernel
theorem d_Days_fit_108 : decode b_Days_fit 108 = .ok (.lcmp, 1) := by decide +kernel
theorem d_Days_fit_109 : decode b_Days_fit 109 = .ok (.ifCond .gt 12, 3) := by decide +kernel
theorem d_Days_fit_112 : decode b_Days_fit 112 = .ok (.aload_n 1, 1) := by decide +kernel
theorem d_Days_fit_113 : decode b_Days_fit 113 = .ok (.lconst 0, 1) := by decide +kernel
theorem d_Days_fit_114 : decode b_Days_fit 114 = .ok (.lconst 1, 1) := by decide +kernel
theorem d_Days_fit_115 : decode b_Days_fit 115 = .ok (.invokevirtual 22, 3) := by decide +kernel
theorem d_Days_fit_118 : decode b_Days_fit 118 = .ok (.goto 22, 3) := by decide +kernel
theorem d_Days_fit_121 : decode b_Days_fit 121 = .ok (.aload_n 1, 1) := by decide +kernel
theorem d_Days_fit_122 : decode b_Days_fit 122 = .ok (.aload_n 0, 1) := by decide +kernel
theorem d_Days_fit_123 : decode b_Days_fit 123 = .ok (.getfield 18, 3) := by decide +kernel
theorem d_Days_fit_126 : decode b_Days_fit 126 = .ok (.i2l, 1) := by decide +kernel
theorem d_Days_fit_127 : decode b_Days_fit 127 = .ok (.lload 6, 2) := by decide +kernel
theorem d_Days_fit_129 : decode b_Days_fit 129 = .ok (.lmul, 1) := by decide +kernel
theorem d_Days_fit_130 : decode b_Days_fit 130 = .ok (.lload_n 2, 1) := by decide +kernel
theorem d_Days_fit_131 : decode b_Days_fit 131 = .ok (.lload 4, 2) := by decide +kernel
theorem d_Days_fit_133 : decode b_Days_fit 133 = .ok (.lmul, 1) := by decide +kernel
theorem d_Days_fit_134 : decode b_Days_fit 134 = .ok (.lsub, 1) := by decide +kernel
theorem d_Days_fit_135 : decode b_Days_fit 135 = .ok (.lload 10, 2) := by decide +kernel
theorem d_Days_fit_137 : decode b_Days_fit 137 = .ok (.invokevirtual 22, 3) := by decide +kernel
theorem d_Days_fit_140 : decode b_Days_fit 140 = .ok (.return_, 1) := by decide +kernel
theorem d_Fraction_init_0 : decode b_Fraction_init 0 = .ok (.aload_n 0, 1) := by decide +kernel
theorem d_Fraction_init_1 : decode b_Fraction_init 1 = .ok (.invokespecial 1, 3) := by decide +kernel
theorem d_Fraction_init_4 : decode b_Fraction_init 4 = .ok (.aload_n 0, 1) := by decide +kernel
theorem d_Fraction_init_5 : decode b_Fraction_init 5 = .ok (.lconst 0, 1) := by decide +kernel
theorem d_Fraction_init_6 : decode b_Fraction_init 6 = .ok (.putfield 7, 3) := by decide +kernel
theorem d_Fraction_init_9 : decode b_Fraction_init 9 = .ok (.aload_n 0, 1) := by decide +kernel
theorem d_Fraction_init_10 : decode b_Fraction_init 10 = .ok (.lconst 1, 1) := by decide +kernel
theorem d_Fraction_init_11 : decode b_Fraction_init 11 = .ok (.putfield 13, 3) := by decide +kernel
theorem d_Fraction_init_14 : decode b_Fraction_init 14 = .ok (.return_, 1) := by decide +kernel
theorem d_Fraction_timesRounded_0 : decode b_Fraction_timesRounded 0 = .ok (.aload_n 0, 1) := by decide +kernel
theorem d_Fraction_timesRounded_1 : decode b_Fraction_timesRounded 1 = .ok (.getfield 13, 3) := by decide +kernel
theorem d_Fraction_timesRounded_4 : decode b_Fraction_timesRounded 4 = .ok (.lconst 0, 1) := by decide +kernel
theorem d_Fraction_timesRounded_5 : decode b_Fraction_timesRounded 5 = .ok (.lcmp, 1) := by decide +kernel
theorem d_Fraction_timesRounded_6 : decode b_Fraction_timesRounded 6 = .ok (.ifCond .gt 5, 3) := by decide +kernel
theorem d_Fraction_timesRounded_9 : decode b_Fraction_timesRounded 9 = .ok (.iconst 0, 1) := by decide +kernel
theorem d_Fraction_timesRounded_10 : decode b_Fraction_timesRounded 10 = .ok (.ireturn, 1) := by decide +kernel
theorem d_Fraction_timesRounded_11 : decode b_Fraction_timesRounded 11 = .ok (.ldc2_w 26, 3) := by decide +kernel
theorem d_Fraction_timesRounded_14 : decode b_Fraction_timesRounded 14 = .ok (.aload_n 0, 1) := by decide +kernel
theorem d_Fraction_timesRounded_15 : decode b_Fraction_timesRounded 15 = .ok (.getfield 7, 3) := by decide +kernel
theorem d_Fraction_timesRounded_18 : decode b_Fraction_timesRounded 18 = .ok (.lmul, 1) := by decide +kernel
theorem d_Fraction_timesRounded_19 : decode b_Fraction_timesRounded 19 = .ok (.iload_n 1, 1) := by decide +kernel
theorem d_Fraction_timesRounded_20 : decode b_Fraction_timesRounded 20 = .ok (.i2l, 1) := by decide +kernel
theorem d_Fraction_timesRounded_21 : decode b_Fraction_timesRounded 21 = .ok (.lmul, 1) := by decide +kernel
theorem d_Fraction_timesRounded_22 : decode b_Fraction_timesRounded 22 = .ok (.aload_n 0, 1) := by decide +kernel
theorem d_Fraction_timesRounded_23 : decode b_Fraction_timesRounded 23 = .ok (.getfield 13, 3) := by decide +kernel
theorem d_Fraction_timesRounded_26 : decode b_Fraction_timesRounded 26 = .ok (.ladd, 1) := by decide +kernel
theorem d_Fraction_timesRounded_27 : decode b_Fraction_timesRounded 27 = .ok (.ldc2_w 26, 3) := by decide +kernel
theorem d_Fraction_timesRounded_30 : decode b_Fraction_timesRounded 30 = .ok (.aload_n 0, 1) := by decide +kernel
theorem d_Fraction_timesRounded_31 : decode b_Fraction_timesRounded 31 = .ok (.getfield 13, 3) := by decide +kernel
theorem d_Fraction_timesRounded_34 : decode b_Fraction_timesRounded 34 = .ok (.lmul, 1) := by decide +kernel
theorem d_Fraction_timesRounded_35 : decode b_Fraction_timesRounded 35 = .ok (.ldiv, 1) := by decide +kernel
theorem d_Fraction_timesRounded_36 : decode b_Fraction_timesRounded 36 = .ok (.l2i, 1) := by decide +kernel
theorem d_Fraction_timesRounded_37 : decode b_Fraction_timesRounded 37 = .ok (.ireturn, 1) := by decide +kernel
theorem d_Noise_init_0 : decode b_Noise_init 0 = .ok (.aload_n 0, 1) := by decide +kernel
theorem d_Noise_init_1 : decode b_Noise_init 1 = .ok (.invokespecial 3, 3) := by decide +kernel
theorem d_Noise_init_4 : decode b_Noise_init 4 = .ok (.aload_n 0, 1) := by decide +kernel
theorem d_Noise_init_5 : decode b_Noise_init 5 = .ok (.bipush 10, 2) := by decide +kernel
theorem d_Noise_init_7 : decode b_Noise_init 7 = .ok (.putfield 11, 3) := by decide +kernel
theorem d_Noise_init_10 : decode b_Noise_init 10 = .ok (.aload_n 0, 1) := by decide +kernel
theorem d_Noise_init_11 : decode b_Noise_init 11 = .ok (.iload_n 1, 1) := by decide +kernel
theorem d_Noise_init_12 : decode b_Noise_init 12 = .ok (.newarray .int, 2) := by decide +kernel
theorem d_Noise_init_14 : decode b_Noise_init 14 = .ok (.putfield 15, 3) := by decide +kernel
theorem d_Noise_init_17 : decode b_Noise_init 17 = .ok (.aload_n 0, 1) := by decide +kernel
theorem d_Noise_init_18 : decode b_Noise_init 18 = .ok (.iload_n 1, 1) := by decide +kernel
theorem d_Noise_init_19 : decode b_Noise_init 19 = .ok (.newarray .int, 2) := by decide +kernel
theorem d_Noise_init_21 : decode b_Noise_init 21 = .ok (.putfield 19, 3) := by decide +kernel
theorem d_Noise_init_24 : decode b_Noise_init 24 = .ok (.iconst 0, 1) := by decide +kernel
theorem d_Noise_init_25 : decode b_Noise_init 25 = .ok (.istore_n 2, 1) := by decide +kernel
theorem d_Noise_init_26 : decode b_Noise_init 26 = .ok (.iload_n 2, 1) := by decide +kernel
theorem d_Noise_init_27 : decode b_Noise_init 27 = .ok (.iload_n 1, 1) := by decide +kernel
theorem d_Noise_init_28 : decode b_Noise_init 28 = .ok (.if_icmp .ge 23, 3) := by decide +kernel
theorem d_Noise_init_31 : decode b_Noise_init 31 = .ok (.aload_n 0, 1) := by decide +kernel
theorem d_Noise_init_32 : decode b_Noise_init 32 = .ok (.getfield 15, 3) := by decide +kernel
theorem d_Noise_init_35 : decode b_Noise_init 35 = .ok (.iload_n 2, 1) := by decide +kernel
theorem d_Noise_init_36 : decode b_Noise_init 36 = .ok (.iconst (-1), 1) := by decide +kernel
theorem d_Noise_init_37 : decode b_Noise_init 37 = .ok (.iastore, 1) := by decide +kernel
theorem d_Noise_init_38 : decode b_Noise_init 38 = .ok (.aload_n 0, 1) := by decide +kernel
theorem d_Noise_init_39 : decode b_Noise_init 39 = .ok (.getfield 19, 3) := by decide +kernel
theorem d_Noise_init_42 : decode b_Noise_init 42 = .ok (.iload_n 2, 1) := by decide +kernel
theorem d_Noise_init_43 : decode b_Noise_init 43 = .ok (.iconst (-1), 1) := by decide +kernel
theorem d_Noise_init_44 : decode b_Noise_init 44 = .ok (.iastore, 1) := by decide +kernel
theorem d_Noise_init_45 : decode b_Noise_init 45 = .ok (.iinc 2 1, 3) := by decide +kernel
theorem d_Noise_init_48 : decode b_Noise_init 48 = .ok (.goto (-22), 3) := by decide +kernel
theorem d_Noise_init_51 : decode b_Noise_init 51 = .ok (.return_, 1) := by decide +kernel
theorem d_Noise_tell_0 : decode b_Noise_tell 0 = .ok (.aload_n 0, 1) := by decide +kernel
theorem d_Noise_tell_1 : decode b_Noise_tell 1 = .ok (.getfield 15, 3) := by decide +kernel
theorem d_Noise_tell_4 : decode b_Noise_tell 4 = .ok (.iload_n 1, 1) := by decide +kernel
theorem d_Noise_tell_5 : decode b_Noise_tell 5 = .ok (.aload_n 0, 1) := by decide +kernel
theorem d_Noise_tell_6 : decode b_Noise_tell 6 = .ok (.getfield 15, 3) := by decide +kernel
theorem d_Noise_tell_9 : decode b_Noise_tell 9 = .ok (.iload_n 1, 1) := by decide +kernel
theorem d_Noise_tell_10 : decode b_Noise_tell 10 = .ok (.iaload, 1) := by decide +kernel
theorem d_Noise_tell_11 : decode b_Noise_tell 11 = .ok (.iconst (-1), 1) := by decide +kernel
theorem d_Noise_tell_12 : decode b_Noise_tell 12 = .ok (.if_icmp .ne 7, 3) := by decide +kernel
theorem d_Noise_tell_15 : decode b_Noise_tell 15 = .ok (.iload_n 2, 1) := by decide +kernel
theorem d_Noise_tell_16 : decode b_Noise_tell 16 = .ok (.goto 13, 3) := by decide +kernel
theorem d_Noise_tell_19 : decode b_Noise_tell 19 = .ok (.aload_n 0, 1) := by decide +kernel
theorem d_Noise_tell_20 : decode b_Noise_tell 20 = .ok (.getfield 15, 3) := by decide +kernel
theorem d_Noise_tell_23 : decode b_Noise_tell 23 = .ok (.iload_n 1, 1) := by decide +kernel
theorem d_Noise_tell_24 : decode b_Noise_tell 24 = .ok (.iaload, 1) := by decide +kernel
theorem d_Noise_tell_25 : decode b_Noise_tell 25 = .ok (.iload_n 2, 1) := by decide +kernel
theorem d_Noise_tell_26 : decode b_Noise_tell 26 = .ok (.invokestatic 22, 3) := by decide +kernel
theorem d_Noise_tell_29 : decode b_Noise_tell 29 = .ok (.iastore, 1) := by decide +kernel
theorem d_Noise_tell_30 : decode b_Noise_tell 30 = .ok (.aload_n 0, 1) := by decide +kernel
theorem d_Noise_tell_31 : decode b_Noise_tell 31 = .ok (.getfield 19, 3) := by decide +kernel
theorem d_Noise_tell_34 : decode b_Noise_tell 34 = .ok (.iload_n 1, 1) := by decide +kernel
theorem d_Noise_tell_35 : decode b_Noise_tell 35 = .ok (.aload_n 0, 1) := by decide +kernel
theorem d_Noise_tell_36 : decode b_Noise_tell 36 = .ok (.getfield 19, 3) := by decide +kernel
theorem d_Noise_tell_39 : decode b_Noise_tell 39 = .ok (.iload_n 1, 1) := by decide +kernel
theorem d_Noise_tell_40 : decode b_Noise_tell 40 = .ok (.iaload, 1) := by decide +kernel
theorem d_Noise_tell_41 : decode b_Noise_tell 41 = .ok (.iload_n 2, 1) := by decide +kernel
theorem d_Noise_tell_42 : decode b_Noise_tell 42 = .ok (.invokestatic 28, 3) := by decide +kernel
theorem d_Noise_tell_45 : decode b_Noise_tell 45 = .ok (.iastore, 1) := by decide +kernel
theorem d_Noise_tell_46 : decode b_Noise_tell 46 = .ok (.aload_n 0, 1) := by decide +kernel
theorem d_Noise_tell_47 : decode b_Noise_tell 47 = .ok (.dup, 1) := by decide +kernel
theorem d_Noise_tell_48 : decode b_Noise_tell 48 = .ok (.getfield 31, 3) := by decide +kernel
theorem d_Noise_tell_51 : decode b_Noise_tell 51 = .ok (.iconst 1, 1) := by decide +kernel
theorem d_Noise_tell_52 : decode b_Noise_tell 52 = .ok (.iadd, 1) := by decide +kernel
theorem d_Noise_tell_53 : decode b_Noise_tell 53 = .ok (.putfield 31, 3) := by decide +kernel
theorem d_Noise_tell_56 : decode b_Noise_tell 56 = .ok (.iload_n 2, 1) := by decide +kernel
theorem d_Noise_tell_57 : decode b_Noise_tell 57 = .ok (.iload_n 3, 1) := by decide +kernel
theorem d_Noise_tell_58 : decode b_Noise_tell 58 = .ok (.isub, 1) := by decide +kernel
theorem d_Noise_tell_59 : decode b_Noise_tell 59 = .ok (.invokestatic 34, 3) := by decide +kernel
theorem d_Noise_tell_62 : decode b_Noise_tell 62 = .ok (.aload_n 0, 1) := by decide +kernel
theorem d_Noise_tell_63 : decode b_Noise_tell 63 = .ok (.getfield 11, 3) := by decide +kernel
theorem d_Noise_tell_66 : decode b_Noise_tell 66 = .ok (.if_icmp .le 13, 3) := by decide +kernel
theorem d_Noise_tell_69 : decode b_Noise_tell 69 = .ok (.aload_n 0, 1) := by decide +kernel
theorem d_Noise_tell_70 : decode b_Noise_tell 70 = .ok (.dup, 1) := by decide +kernel
theorem d_Noise_tell_71 : decode b_Noise_tell 71 = .ok (.getfield 38, 3) := by decide +kernel
theorem d_Noise_tell_74 : decode b_Noise_tell 74 = .ok (.iconst 1, 1) := by decide +kernel
theorem d_Noise_tell_75 : decode b_Noise_tell 75 = .ok (.iadd, 1) := by decide +kernel
theorem d_Noise_tell_76 : decode b_Noise_tell 76 = .ok (.putfield 38, 3) := by decide +kernel
theorem d_Noise_tell_79 : decode b_Noise_tell 79 = .ok (.return_, 1) := by decide +kernel
theorem d_Noise_boundOf_0 : decode b_Noise_boundOf 0 = .ok (.aload_n 0, 1) := by decide +kernel
theorem d_Noise_boundOf_1 : decode b_Noise_boundOf 1 = .ok (.getfield 15, 3) := by decide +kernel
theorem d_Noise_boundOf_4 : decode b_Noise_boundOf 4 = .ok (.iload_n 1, 1) := by decide +kernel
theorem d_Noise_boundOf_5 : decode b_Noise_boundOf 5 = .ok (.iaload, 1) := by decide +kernel
theorem d_Noise_boundOf_6 : decode b_Noise_boundOf 6 = .ok (.iconst (-1), 1) := by decide +kernel
theorem d_Noise_boundOf_7 : decode b_Noise_boundOf 7 = .ok (.if_icmp .ne 8, 3) := by decide +kernel
theorem d_Noise_boundOf_10 : decode b_Noise_boundOf 10 = .ok (.aload_n 0, 1) := by decide +kernel
theorem d_Noise_boundOf_11 : decode b_Noise_boundOf 11 = .ok (.getfield 11, 3) := by decide +kernel
theorem d_Noise_boundOf_14 : decode b_Noise_boundOf 14 = .ok (.ireturn, 1) := by decide +kernel
theorem d_Noise_boundOf_15 : decode b_Noise_boundOf 15 = .ok (.aload_n 0, 1) := by decide +kernel
theorem d_Noise_boundOf_16 : decode b_Noise_boundOf 16 = .ok (.getfield 15, 3) := by decide +kernel
theorem d_Noise_boundOf_19 : decode b_Noise_boundOf 19 = .ok (.iload_n 1, 1) := by decide +kernel
theorem d_Noise_boundOf_20 : decode b_Noise_boundOf 20 = .ok (.iaload, 1) := by decide +kernel
theorem d_Noise_boundOf_21 : decode b_Noise_boundOf 21 = .ok (.iload_n 2, 1) := by decide +kernel
theorem d_Noise_boundOf_22 : decode b_Noise_boundOf 22 = .ok (.isub, 1) := by decide +kernel
theorem d_Noise_boundOf_23 : decode b_Noise_boundOf 23 = .ok (.invokestatic 34, 3) := by decide +kernel
theorem d_Noise_boundOf_26 : decode b_Noise_boundOf 26 = .ok (.aload_n 0, 1) := by decide +kernel
theorem d_Noise_boundOf_27 : decode b_Noise_boundOf 27 = .ok (.getfield 19, 3) := by decide +kernel
theorem d_Noise_boundOf_30 : decode b_Noise_boundOf 30 = .ok (.iload_n 1, 1) := by decide +kernel
theorem d_Noise_boundOf_31 : decode b_Noise_boundOf 31 = .ok (.iaload, 1) := by decide +kernel
theorem d_Noise_boundOf_32 : decode b_Noise_boundOf 32 = .ok (.iload_n 2, 1) := by decide +kernel
theorem d_Noise_boundOf_33 : decode b_Noise_boundOf 33 = .ok (.isub, 1) := by decide +kernel
theorem d_Noise_boundOf_34 : decode b_Noise_boundOf 34 = .ok (.invokestatic 34, 3) := by decide +kernel
theorem d_Noise_boundOf_37 : decode b_Noise_boundOf 37 = .ok (.invokestatic 28, 3) := by decide +kernel
theorem d_Noise_boundOf_40 : decode b_Noise_boundOf 40 = .ok (.istore_n 3, 1) := by decide +kernel
theorem d_Noise_boundOf_41 : decode b_Noise_boundOf 41 = .ok (.aload_n 0, 1) := by decide +kernel
theorem d_Noise_boundOf_42 : decode b_Noise_boundOf 42 = .ok (.getfield 11, 3) := by decide +kernel
theorem d_Noise_boundOf_45 : decode b_Noise_boundOf 45 = .ok (.iload_n 3, 1) := by decide +kernel
theorem d_Noise_boundOf_46 : decode b_Noise_boundOf 46 = .ok (.iadd, 1) := by decide +kernel
theorem d_Noise_boundOf_47 : decode b_Noise_boundOf 47 = .ok (.ireturn, 1) := by decide +kernel
theorem d_Shift_init_0 : decode b_Shift_init 0 = .ok (.aload_n 0, 1) := by decide +kernel
theorem d_Shift_init_1 : decode b_Shift_init 1 = .ok (.invokespecial 1, 3) := by decide +kernel
theorem d_Shift_init_4 : decode b_Shift_init 4 = .ok (.return_, 1) := by decide +kernel
theorem d_Shift_moveTo_0 : decode b_Shift_moveTo 0 = .ok (.aload_n 0, 1) := by decide +kernel
theorem d_Shift_moveTo_1 : decode b_Shift_moveTo 1 = .ok (.iload_n 1, 1) := by decide +kernel
theorem d_Shift_moveTo_2 : decode b_Shift_moveTo 2 = .ok (.putfield 7, 3) := by decide +kernel
theorem d_Shift_moveTo_5 : decode b_Shift_moveTo 5 = .ok (.aload_n 0, 1) := by decide +kernel
theorem d_Shift_moveTo_6 : decode b_Shift_moveTo 6 = .ok (.iload_n 2, 1) := by decide +kernel
theorem d_Shift_moveTo_7 : decode b_Shift_moveTo 7 = .ok (.putfield 13, 3) := by decide +kernel
theorem d_Shift_moveTo_10 : decode b_Shift_moveTo 10 = .ok (.aload_n 0, 1) := by decide +kernel
theorem d_Shift_moveTo_11 : decode b_Shift_moveTo 11 = .ok (.iconst 0, 1) := by decide +kernel
theorem d_Shift_moveTo_12 : decode b_Shift_moveTo 12 = .ok (.putfield 16, 3) := by decide +kernel
theorem d_Shift_moveTo_15 : decode b_Shift_moveTo 15 = .ok (.aload_n 0, 1) := by decide +kernel
theorem d_Shift_moveTo_16 : decode b_Shift_moveTo 16 = .ok (.iconst 0, 1) := by decide +kernel
theorem d_Shift_moveTo_17 : decode b_Shift_moveTo 17 = .ok (.putfield 19, 3) := by decide +kernel
theorem d_Shift_moveTo_20 : decode b_Shift_moveTo 20 = .ok (.return_, 1) := by decide +kernel
theorem d_Shift_add_0 : decode b_Shift_add 0 = .ok (.aload_n 0, 1) := by decide +kernel
theorem d_Shift_add_1 : decode b_Shift_add 1 = .ok (.dup, 1) := by decide +kernel
theorem d_Shift_add_2 : decode b_Shift_add 2 = .ok (.getfield 16, 3) := by decide +kernel
theorem d_Shift_add_5 : decode b_Shift_add 5 = .ok (.iload_n 1, 1) := by decide +kernel
theorem d_Shift_add_6 : decode b_Shift_add 6 = .ok (.iadd, 1) := by decide +kernel
theorem d_Shift_add_7 : decode b_Shift_add 7 = .ok (.putfield 16, 3) := by decide +kernel
theorem d_Shift_add_10 : decode b_Shift_add 10 = .ok (.aload_n 0, 1) := by decide +kernel
theorem d_Shift_add_11 : decode b_Shift_add 11 = .ok (.dup, 1) := by decide +kernel
theorem d_Shift_add_12 : decode b_Shift_add 12 = .ok (.getfield 19, 3) := by decide +kernel
theorem d_Shift_add_15 : decode b_Shift_add 15 = .ok (.iconst 1, 1) := by decide +kernel
theorem d_Shift_add_16 : decode b_Shift_add 16 = .ok (.iadd, 1) := by decide +kernel
theorem d_Shift_add_17 : decode b_Shift_add 17 = .ok (.putfield 19, 3) := by decide +kernel
theorem d_Shift_add_20 : decode b_Shift_add 20 = .ok (.return_, 1) := by decide +kernel
theorem d_Shift_become_0 : decode b_Shift_become 0 = .ok (.aload_n 0, 1) := by decide +kernel
theorem d_Shift_become_1 : decode b_Shift_become 1 = .ok (.aload_n 1, 1) := by decide +kernel
theorem d_Shift_become_2 : decode b_Shift_become 2 = .ok (.getfield 7, 3) := by decide +kernel
theorem d_Shift_become_5 : decode b_Shift_become 5 = .ok (.putfield 7, 3) := by decide +kernel
theorem d_Shift_become_8 : decode b_Shift_become 8 = .ok (.aload_n 0, 1) := by decide +kernel
theorem d_Shift_become_9 : decode b_Shift_become 9 = .ok (.aload_n 1, 1) := by decide +kernel
theorem d_Shift_become_10 : decode b_Shift_become 10 = .ok (.getfield 13, 3) := by decide +kernel
theorem d_Shift_become_13 : decode b_Shift_become 13 = .ok (.putfield 13, 3) := by decide +kernel
theorem d_Shift_become_16 : decode b_Shift_become 16 = .ok (.aload_n 0, 1) := by decide +kernel
theorem d_Shift_become_17 : decode b_Shift_become 17 = .ok (.aload_n 1, 1) := by decide +kernel
theorem d_Shift_become_18 : decode b_Shift_become 18 = .ok (.getfield 16, 3) := by decide +kernel
theorem d_Shift_become_21 : decode b_Shift_become 21 = .ok (.putfield 16, 3) := by decide +kernel
theorem d_Shift_become_24 : decode b_Shift_become 24 = .ok (.aload_n 0, 1) := by decide +kernel
theorem d_Shift_become_25 : decode b_Shift_become 25 = .ok (.aload_n 1, 1) := by decide +kernel
theorem d_Shift_become_26 : decode b_Shift_become 26 = .ok (.getfield 19, 3) := by decide +kernel
theorem d_Shift_become_29 : decode b_Shift_become 29 = .ok (.putfield 19, 3) := by decide +kernel
theorem d_Shift_become_32 : decode b_Shift_become 32 = .ok (.return_, 1) := by decide +kernel
theorem d_Shift_together_0 : decode b_Shift_together 0 = .ok (.aload_n 0, 1) := by decide +kernel
theorem d_Shift_together_1 : decode b_Shift_together 1 = .ok (.getfield 7, 3) := by decide +kernel
theorem d_Shift_together_4 : decode b_Shift_together 4 = .ok (.invokestatic 26, 3) := by decide +kernel
theorem d_Shift_together_7 : decode b_Shift_together 7 = .ok (.aload_n 0, 1) := by decide +kernel
theorem d_Shift_together_8 : decode b_Shift_together 8 = .ok (.getfield 13, 3) := by decide +kernel
theorem d_Shift_together_11 : decode b_Shift_together 11 = .ok (.invokestatic 26, 3) := by decide +kernel
theorem d_Shift_together_14 : decode b_Shift_together 14 = .ok (.iadd, 1) := by decide +kernel
theorem d_Shift_together_15 : decode b_Shift_together 15 = .ok (.ireturn, 1) := by decide +kernel
theorem d_Shift_isBetterThan_0 : decode b_Shift_isBetterThan 0 = .ok (.aload_n 0, 1) := by decide +kernel
theorem d_Shift_isBetterThan_1 : decode b_Shift_isBetterThan 1 = .ok (.getfield 16, 3) := by decide +kernel
theorem d_Shift_isBetterThan_4 : decode b_Shift_isBetterThan 4 = .ok (.i2l, 1) := by decide +kernel
theorem d_Shift_isBetterThan_5 : decode b_Shift_isBetterThan 5 = .ok (.aload_n 1, 1) := by decide +kernel
theorem d_Shift_isBetterThan_6 : decode b_Shift_isBetterThan 6 = .ok (.getfield 19, 3) := by decide +kernel
theorem d_Shift_isBetterThan_9 : decode b_Shift_isBetterThan 9 = .ok (.i2l, 1) := by decide +kernel
theorem d_Shift_isBetterThan_10 : decode b_Shift_isBetterThan 10 = .ok (.lmul, 1) := by decide +kernel
theorem d_Shift_isBetterThan_11 : decode b_Shift_isBetterThan 11 = .ok (.lstore_n 2, 1) := by decide +kernel
theorem d_Shift_isBetterThan_12 : decode b_Shift_isBetterThan 12 = .ok (.aload_n 1, 1) := by decide +kernel
theorem d_Shift_isBetterThan_13 : decode b_Shift_isBetterThan 13 = .ok (.getfield 16, 3) := by decide +kernel
theorem d_Shift_isBetterThan_16 : decode b_Shift_isBetterThan 16 = .ok (.i2l, 1) := by decide +kernel
theorem d_Shift_isBetterThan_17 : decode b_Shift_isBetterThan 17 = .ok (.aload_n 0, 1) := by decide +kernel
theorem d_Shift_isBetterThan_18 : decode b_Shift_isBetterThan 18 = .ok (.getfield 19, 3) := by decide +kernel
theorem d_Shift_isBetterThan_21 : decode b_Shift_isBetterThan 21 = .ok (.i2l, 1) := by decide +kernel
theorem d_Shift_isBetterThan_22 : decode b_Shift_isBetterThan 22 = .ok (.lmul, 1) := by decide +kernel
theorem d_Shift_isBetterThan_23 : decode b_Shift_isBetterThan 23 = .ok (.lstore 4, 2) := by decide +kernel
theorem d_Shift_isBetterThan_25 : decode b_Shift_isBetterThan 25 = .ok (.lload_n 2, 1) := by decide +kernel
theorem d_Shift_isBetterThan_26 : decode b_Shift_isBetterThan 26 = .ok (.lload 4, 2) := by decide +kernel
theorem d_Shift_isBetterThan_28 : decode b_Shift_isBetterThan 28 = .ok (.lcmp, 1) := by decide +kernel
theorem d_Shift_isBetterThan_29 : decode b_Shift_isBetterThan 29 = .ok (.ifCond .eq 16, 3) := by decide +kernel
theorem d_Shift_isBetterThan_32 : decode b_Shift_isBetterThan 32 = .ok (.lload_n 2, 1) := by decide +kernel
theorem d_Shift_isBetterThan_33 : decode b_Shift_isBetterThan 33 = .ok (.lload 4, 2) := by decide +kernel
theorem d_Shift_isBetterThan_35 : decode b_Shift_isBetterThan 35 = .ok (.lcmp, 1) := by decide +kernel
theorem d_Shift_isBetterThan_36 : decode b_Shift_isBetterThan 36 = .ok (.ifCond .ge 7, 3) := by decide +kernel
theorem d_Shift_isBetterThan_39 : decode b_Shift_isBetterThan 39 = .ok (.iconst 1, 1) := by decide +kernel
theorem d_Shift_isBetterThan_40 : decode b_Shift_isBetterThan 40 = .ok (.goto 4, 3) := by decide +kernel
theorem d_Shift_isBetterThan_43 : decode b_Shift_isBetterThan 43 = .ok (.iconst 0, 1) := by decide +kernel
theorem d_Shift_isBetterThan_44 : decode b_Shift_isBetterThan 44 = .ok (.ireturn, 1) := by decide +kernel
theorem d_Shift_isBetterThan_45 : decode b_Shift_isBetterThan 45 = .ok (.aload_n 0, 1) := by decide +kernel
theorem d_Shift_isBetterThan_46 : decode b_Shift_isBetterThan 46 = .ok (.invokevirtual 22, 3) := by decide +kernel
theorem d_Shift_isBetterThan_49 : decode b_Shift_isBetterThan 49 = .ok (.aload_n 1, 1) := by decide +kernel
theorem d_Shift_isBetterThan_50 : decode b_Shift_isBetterThan 50 = .ok (.invokevirtual 22, 3) := by decide +kernel
theorem d_Shift_isBetterThan_53 : decode b_Shift_isBetterThan 53 = .ok (.if_icmp .eq 20, 3) := by decide +kernel
theorem d_Shift_isBetterThan_56 : decode b_Shift_isBetterThan 56 = .ok (.aload_n 0, 1) := by decide +kernel
theorem d_Shift_isBetterThan_57 : decode b_Shift_isBetterThan 57 = .ok (.invokevirtual 22, 3) := by decide +kernel
theorem d_Shift_isBetterThan_60 : decode b_Shift_isBetterThan 60 = .ok (.aload_n 1, 1) := by decide +kernel
theorem d_Shift_isBetterThan_61 : decode b_Shift_isBetterThan 61 = .ok (.invokevirtual 22, 3) := by decide +kernel
theorem d_Shift_isBetterThan_64 : decode b_Shift_isBetterThan 64 = .ok (.if_icmp .ge 7, 3) := by decide +kernel
theorem d_Shift_isBetterThan_67 : decode b_Shift_isBetterThan 67 = .ok (.iconst 1, 1) := by decide +kernel
theorem d_Shift_isBetterThan_68 : decode b_Shift_isBetterThan 68 = .ok (.goto 4, 3) := by decide +kernel
theorem d_Shift_isBetterThan_71 : decode b_Shift_isBetterThan 71 = .ok (.iconst 0, 1) := by decide +kernel
theorem d_Shift_isBetterThan_72 : decode b_Shift_isBetterThan 72 = .ok (.ireturn, 1) := by decide +kernel
theorem d_Shift_isBetterThan_73 : decode b_Shift_isBetterThan 73 = .ok (.aload_n 0, 1) := by decide +kernel
theorem d_Shift_isBetterThan_74 : decode b_Shift_isBetterThan 74 = .ok (.getfield 7, 3) := by decide +kernel
theorem d_Shift_isBetterThan_77 : decode b_Shift_isBetterThan 77 = .ok (.aload_n 1, 1) := by decide +kernel
theorem d_Shift_isBetterThan_78 : decode b_Shift_isBetterThan 78 = .ok (.getfield 7, 3) := by decide +kernel
theorem d_Shift_isBetterThan_81 : decode b_Shift_isBetterThan 81 = .ok (.if_icmp .eq 20, 3) := by decide +kernel
theorem d_Shift_isBetterThan_84 : decode b_Shift_isBetterThan 84 = .ok (.aload_n 0, 1) := by decide +kernel
theorem d_Shift_isBetterThan_85 : decode b_Shift_isBetterThan 85 = .ok (.getfield 7, 3) := by decide +kernel
theorem d_Shift_isBetterThan_88 : decode b_Shift_isBetterThan 88 = .ok (.aload_n 1, 1) := by decide +kernel
theorem d_Shift_isBetterThan_89 : decode b_Shift_isBetterThan 89 = .ok (.getfield 7, 3) := by decide +kernel
theorem d_Shift_isBetterThan_92 : decode b_Shift_isBetterThan 92 = .ok (.if_icmp .ge 7, 3) := by decide +kernel
theorem d_Shift_isBetterThan_95 : decode b_Shift_isBetterThan 95 = .ok (.iconst 1, 1) := by decide +kernel
theorem d_Shift_isBetterThan_96 : decode b_Shift_isBetterThan 96 = .ok (.goto 4, 3) := by decide +kernel
theorem d_Shift_isBetterThan_99 : decode b_Shift_isBetterThan 99 = .ok (.iconst 0, 1) := by decide +kernel
theorem d_Shift_isBetterThan_100 : decode b_Shift_isBetterThan 100 = .ok (.ireturn, 1) := by decide +kernel
theorem d_Shift_isBetterThan_101 : decode b_Shift_isBetterThan 101 = .ok (.aload_n 0, 1) := by decide +kernel
theorem d_Shift_isBetterThan_102 : decode b_Shift_isBetterThan 102 = .ok (.getfield 13, 3) := by decide +kernel
theorem d_Shift_isBetterThan_105 : decode b_Shift_isBetterThan 105 = .ok (.aload_n 1, 1) := by decide +kernel
theorem d_Shift_isBetterThan_106 : decode b_Shift_isBetterThan 106 = .ok (.getfield 13, 3) := by decide +kernel
theorem d_Shift_isBetterThan_109 : decode b_Shift_isBetterThan 109 = .ok (.if_icmp .ge 7, 3) := by decide +kernel
theorem d_Shift_isBetterThan_112 : decode b_Shift_isBetterThan 112 = .ok (.iconst 1, 1) := by decide +kernel
theorem d_Shift_isBetterThan_113 : decode b_Shift_isBetterThan 113 = .ok (.goto 4, 3) := by decide +kernel
theorem d_Shift_isBetterThan_116 : decode b_Shift_isBetterThan 116 = .ok (.iconst 0, 1) := by decide +kernel
theorem d_Shift_isBetterThan_117 : decode b_Shift_isBetterThan 117 = .ok (.ireturn, 1) := by decide +kernel
theorem d_Spots_init_0 : decode b_Spots_init 0 = .ok (.aload_n 0, 1) := by decide +kernel
theorem d_Spots_init_1 : decode b_Spots_init 1 = .ok (.invokespecial 3, 3) := by decide +kernel
theorem d_Spots_init_4 : decode b_Spots_init 4 = .ok (.aload_n 0, 1) := by decide +kernel
theorem d_Spots_init_5 : decode b_Spots_init 5 = .ok (.iload_n 1, 1) := by decide +kernel
theorem d_Spots_init_6 : decode b_Spots_init 6 = .ok (.putfield 9, 3) := by decide +kernel
theorem d_Spots_init_9 : decode b_Spots_init 9 = .ok (.aload_n 0, 1) := by decide +kernel
theorem d_Spots_init_10 : decode b_Spots_init 10 = .ok (.iload_n 2, 1) := by decide +kernel
theorem d_Spots_init_11 : decode b_Spots_init 11 = .ok (.putfield 15, 3) := by decide +kernel
theorem d_Spots_init_14 : decode b_Spots_init 14 = .ok (.iload_n 1, 1) := by decide +kernel
theorem d_Spots_init_15 : decode b_Spots_init 15 = .ok (.iload_n 2, 1) := by decide +kernel
theorem d_Spots_init_16 : decode b_Spots_init 16 = .ok (.imul, 1) := by decide +kernel
theorem d_Spots_init_17 : decode b_Spots_init 17 = .ok (.istore_n 3, 1) := by decide +kernel
theorem d_Spots_init_18 : decode b_Spots_init 18 = .ok (.aload_n 0, 1) := by decide +kernel
theorem d_Spots_init_19 : decode b_Spots_init 19 = .ok (.iload_n 3, 1) := by decide +kernel
theorem d_Spots_init_20 : decode b_Spots_init 20 = .ok (.newarray .int, 2) := by decide +kernel
theorem d_Spots_init_22 : decode b_Spots_init 22 = .ok (.putfield 18, 3) := by decide +kernel
theorem d_Spots_init_25 : decode b_Spots_init 25 = .ok (.aload_n 0, 1) := by decide +kernel
theorem d_Spots_init_26 : decode b_Spots_init 26 = .ok (.iload_n 3, 1) := by decide +kernel
theorem d_Spots_init_27 : decode b_Spots_init 27 = .ok (.newarray .int, 2) := by decide +kernel
theorem d_Spots_init_29 : decode b_Spots_init 29 = .ok (.putfield 22, 3) := by decide +kernel
theorem d_Spots_init_32 : decode b_Spots_init 32 = .ok (.aload_n 0, 1) := by decide +kernel
theorem d_Spots_init_33 : decode b_Spots_init 33 = .ok (.iload_n 3, 1) := by decide +kernel
theorem d_Spots_init_34 : decode b_Spots_init 34 = .ok (.newarray .int, 2) := by decide +kernel
theorem d_Spots_init_36 : decode b_Spots_init 36 = .ok (.putfield 25, 3) := by decide +kernel
theorem d_Spots_init_39 : decode b_Spots_init 39 = .ok (.aload_n 0, 1) := by decide +kernel
theorem d_Spots_init_40 : decode b_Spots_init 40 = .ok (.iload_n 3, 1) := by decide +kernel
theorem d_Spots_init_41 : decode b_Spots_init 41 = .ok (.newarray .int, 2) := by decide +kernel
theorem d_Spots_init_43 : decode b_Spots_init 43 = .ok (.putfield 28, 3) := by decide +kernel
theorem d_Spots_init_46 : decode b_Spots_init 46 = .ok (.aload_n 0, 1) := by decide +kernel
theorem d_Spots_init_47 : decode b_Spots_init 47 = .ok (.bipush 7, 2) := by decide +kernel
theorem d_Spots_init_49 : decode b_Spots_init 49 = .ok (.iload_n 3, 1) := by decide +kernel
theorem d_Spots_init_50 : decode b_Spots_init 50 = .ok (.iconst 1, 1) := by decide +kernel
theorem d_Spots_init_51 : decode b_Spots_init 51 = .ok (.iadd, 1) := by decide +kernel
theorem d_Spots_init_52 : decode b_Spots_init 52 = .ok (.iconst 2, 1) := by decide +kernel
theorem d_Spots_init_53 : decode b_Spots_init 53 = .ok (.idiv, 1) := by decide +kernel
theorem d_Spots_init_54 : decode b_Spots_init 54 = .ok (.imul, 1) := by decide +kernel
theorem d_Spots_init_55 : decode b_Spots_init 55 = .ok (.newarray .int, 2) := by decide +kernel
theorem d_Spots_init_57 : decode b_Spots_init 57 = .ok (.putfield 31, 3) := by decide +kernel
theorem d_Spots_init_60 : decode b_Spots_init 60 = .ok (.iconst 0, 1) := by decide +kernel
theorem d_Spots_init_61 : decode b_Spots_init 61 = .ok (.istore 4, 2) := by decide +kernel
theorem d_Spots_init_63 : decode b_Spots_init 63 = .ok (.iload 4, 2) := by decide +kernel
theorem d_Spots_init_65 : decode b_Spots_init 65 = .ok (.iload_n 3, 1) := by decide +kernel
theorem d_Spots_init_66 : decode b_Spots_init 66 = .ok (.if_icmp .ge 17, 3) := by decide +kernel
theorem d_Spots_init_69 : decode b_Spots_init 69 = .ok (.aload_n 0, 1) := by decide +kernel
theorem d_Spots_init_70 : decode b_Spots_init 70 = .ok (.getfield 18, 3) := by decide +kernel
theorem d_Spots_init_73 : decode b_Spots_init 73 = .ok (.iload 4, 2) := by decide +kernel
theorem d_Spots_init_75 : decode b_Spots_init 75 = .ok (.iconst (-1), 1) := by decide +kernel
theorem d_Spots_init_76 : decode b_Spots_init 76 = .ok (.iastore, 1) := by decide +kernel
theorem d_Spots_init_77 : decode b_Spots_init 77 = .ok (.iinc 4 1, 3) := by decide +kernel
theorem d_Spots_init_80 : decode b_Spots_init 80 = .ok (.goto (-17), 3) := by decide +kernel
theorem d_Spots_init_83 : decode b_Spots_init 83 = .ok (.return_, 1) := by decide +kernel
theorem d_Spots_clear_0 : decode b_Spots_clear 0 = .ok (.aload_n 0, 1) := by decide +kernel
theorem d_Spots_clear_1 : decode b_Spots_clear 1 = .ok (.iconst 0, 1) := by decide +kernel
theorem d_Spots_clear_2 : decode b_Spots_clear 2 = .ok (.putfield 34, 3) := by decide +kernel
theorem d_Spots_clear_5 : decode b_Spots_clear 5 = .ok (.aload_n 0, 1) := by decide +kernel
theorem d_Spots_clear_6 : decode b_Spots_clear 6 = .ok (.iconst 0, 1) := by decide +kernel
theorem d_Spots_clear_7 : decode b_Spots_clear 7 = .ok (.putfield 37, 3) := by decide +kernel
theorem d_Spots_clear_10 : decode b_Spots_clear 10 = .ok (.iconst 0, 1) := by decide +kernel
theorem d_Spots_clear_11 : decode b_Spots_clear 11 = .ok (.istore_n 1, 1) := by decide +kernel
theorem d_Spots_clear_12 : decode b_Spots_clear 12 = .ok (.iload_n 1, 1) := by decide +kernel
theorem d_Spots_clear_13 : decode b_Spots_clear 13 = .ok (.aload_n 0, 1) := by decide +kernel
theorem d_Spots_clear_14 : decode b_Spots_clear 14 = .ok (.getfield 18, 3) := by decide +kernel
theorem d_Spots_clear_17 : decode b_Spots_clear 17 = .ok (.arraylength, 1) := by decide +kernel
theorem d_Spots_clear_18 : decode b_Spots_clear 18 = .ok (.if_icmp .ge 16, 3) := by decide +kernel
theorem d_Spots_clear_21 : decode b_Spots_clear 21 = .ok (.aload_n 0, 1) := by decide +kernel
theorem d_Spots_clear_22 : decode b_Spots_clear 22 = .ok (.getfield 18, 3) := by decide +kernel
theorem d_Spots_clear_25 : decode b_Spots_clear 25 = .ok (.iload_n 1, 1) := by decide +kernel
theorem d_Spots_clear_26 : decode b_Spots_clear 26 = .ok (.iconst (-1), 1) := by decide +kernel
theorem d_Spots_clear_27 : decode b_Spots_clear 27 = .ok (.iastore, 1) := by decide +kernel
theorem d_Spots_clear_28 : decode b_Spots_clear 28 = .ok (.iinc 1 1, 3) := by decide +kernel
theorem d_Spots_clear_31 : decode b_Spots_clear 31 = .ok (.goto (-19), 3) := by decide +kernel
theorem d_Spots_clear_34 : decode b_Spots_clear 34 = .ok (.return_, 1) := by decide +kernel
theorem d_Spots_mark_0 : decode b_Spots_mark 0 = .ok (.aload_n 0, 1) := by decide +kernel
theorem d_Spots_mark_1 : decode b_Spots_mark 1 = .ok (.getfield 18, 3) := by decide +kernel
theorem d_Spots_mark_4 : decode b_Spots_mark 4 = .ok (.iload_n 2, 1) := by decide +kernel
theorem d_Spots_mark_5 : decode b_Spots_mark 5 = .ok (.aload_n 0, 1) := by decide +kernel
theorem d_Spots_mark_6 : decode b_Spots_mark 6 = .ok (.getfield 9, 3) := by decide +kernel
theorem d_Spots_mark_9 : decode b_Spots_mark 9 = .ok (.imul, 1) := by decide +kernel
theorem d_Spots_mark_10 : decode b_Spots_mark 10 = .ok (.iload_n 1, 1) := by decide +kernel
theorem d_Spots_mark_11 : decode b_Spots_mark 11 = .ok (.iadd, 1) := by decide +kernel
theorem d_Spots_mark_12 : decode b_Spots_mark 12 = .ok (.bipush (-2), 2) := by decide +kernel
theorem d_Spots_mark_14 : decode b_Spots_mark 14 = .ok (.iastore, 1) := by decide +kernel
theorem d_Spots_mark_15 : decode b_Spots_mark 15 = .ok (.aload_n 0, 1) := by decide +kernel
theorem d_Spots_mark_16 : decode b_Spots_mark 16 = .ok (.getfield 22, 3) := by decide +kernel
theorem d_Spots_mark_19 : decode b_Spots_mark 19 = .ok (.iload_n 2, 1) := by decide +kernel
theorem d_Spots_mark_20 : decode b_Spots_mark 20 = .ok (.aload_n 0, 1) := by decide +kernel
theorem d_Spots_mark_21 : decode b_Spots_mark 21 = .ok (.getfield 9, 3) := by decide +kernel
theorem d_Spots_mark_24 : decode b_Spots_mark 24 = .ok (.imul, 1) := by decide +kernel
theorem d_Spots_mark_25 : decode b_Spots_mark 25 = .ok (.iload_n 1, 1) := by decide +kernel
theorem d_Spots_mark_26 : decode b_Spots_mark 26 = .ok (.iadd, 1) := by decide +kernel
theorem d_Spots_mark_27 : decode b_Spots_mark 27 = .ok (.iload_n 3, 1) := by decide +kernel
theorem d_Spots_mark_28 : decode b_Spots_mark 28 = .ok (.iastore, 1) := by decide +kernel
theorem d_Spots_mark_29 : decode b_Spots_mark 29 = .ok (.aload_n 0, 1) := by decide +kernel
theorem d_Spots_mark_30 : decode b_Spots_mark 30 = .ok (.dup, 1) := by decide +kernel
theorem d_Spots_mark_31 : decode b_Spots_mark 31 = .ok (.getfield 37, 3) := by decide +kernel
theorem d_Spots_mark_34 : decode b_Spots_mark 34 = .ok (.iconst 1, 1) := by decide +kernel
theorem d_Spots_mark_35 : decode b_Spots_mark 35 = .ok (.iadd, 1) := by decide +kernel
theorem d_Spots_mark_36 : decode b_Spots_mark 36 = .ok (.putfield 37, 3) := by decide +kernel
theorem d_Spots_mark_39 : decode b_Spots_mark 39 = .ok (.return_, 1) := by decide +kernel
theorem d_Spots_spotAt_0 : decode b_Spots_spotAt 0 = .ok (.iload_n 1, 1) := by decide +kernel
theorem d_Spots_spotAt_1 : decode b_Spots_spotAt 1 = .ok (.ifCond .lt 39, 3) := by decide +kernel
theorem d_Spots_spotAt_4 : decode b_Spots_spotAt 4 = .ok (.iload_n 1, 1) := by decide +kernel
theorem d_Spots_spotAt_5 : decode b_Spots_spotAt 5 = .ok (.aload_n 0, 1) := by decide +kernel
theorem d_Spots_spotAt_6 : decode b_Spots_spotAt 6 = .ok (.getfield 9, 3) := by decide +kernel
theorem d_Spots_spotAt_9 : decode b_Spots_spotAt 9 = .ok (.if_icmp .ge 31, 3) := by decide +kernel
theorem d_Spots_spotAt_12 : decode b_Spots_spotAt 12 = .ok (.iload_n 2, 1) := by decide +kernel
theorem d_Spots_spotAt_13 : decode b_Spots_spotAt 13 = .ok (.ifCond .lt 27, 3) := by decide +kernel
theorem d_Spots_spotAt_16 : decode b_Spots_spotAt 16 = .ok (.iload_n 2, 1) := by decide +kernel
theorem d_Spots_spotAt_17 : decode b_Spots_spotAt 17 = .ok (.aload_n 0, 1) := by decide +kernel
theorem d_Spots_spotAt_18 : decode b_Spots_spotAt 18 = .ok (.getfield 15, 3) := by decide +kernel
theorem d_Spots_spotAt_21 : decode b_Spots_spotAt 21 = .ok (.if_icmp .ge 19, 3) := by decide +kernel
theorem d_Spots_spotAt_24 : decode b_Spots_spotAt 24 = .ok (.aload_n 0, 1) := by decide +kernel
theorem d_Spots_spotAt_25 : decode b_Spots_spotAt 25 = .ok (.getfield 18, 3) := by decide +kernel
theorem d_Spots_spotAt_28 : decode b_Spots_spotAt 28 = .ok (.iload_n 2, 1) := by decide +kernel
theorem d_Spots_spotAt_29 : decode b_Spots_spotAt 29 = .ok (.aload_n 0, 1) := by decide +kernel
theorem d_Spots_spotAt_30 : decode b_Spots_spotAt 30 = .ok (.getfield 9, 3) := by decide +kernel
theorem d_Spots_spotAt_33 : decode b_Spots_spotAt 33 = .ok (.imul, 1) := by decide +kernel
theorem d_Spots_spotAt_34 : decode b_Spots_spotAt 34 = .ok (.iload_n 1, 1) := by decide +kernel
theorem d_Spots_spotAt_35 : decode b_Spots_spotAt 35 = .ok (.iadd, 1) := by decide +kernel
theorem d_Spots_spotAt_36 : decode b_Spots_spotAt 36 = .ok (.iaload, 1) := by decide +kernel
theorem d_Spots_spotAt_37 : decode b_Spots_spotAt 37 = .ok (.goto 4, 3) := by decide +kernel
theorem d_Spots_spotAt_40 : decode b_Spots_spotAt 40 = .ok (.iconst (-1), 1) := by decide +kernel
theorem d_Spots_spotAt_41 : decode b_Spots_spotAt 41 = .ok (.ireturn, 1) := by decide +kernel
theorem d_Spots_take_0 : decode b_Spots_take 0 = .ok (.aload_n 0, 1) := by decide +kernel
theorem d_Spots_take_1 : decode b_Spots_take 1 = .ok (.iload_n 1, 1) := by decide +kernel
theorem d_Spots_take_2 : decode b_Spots_take 2 = .ok (.iload_n 2, 1) := by decide +kernel
theorem d_Spots_take_3 : decode b_Spots_take 3 = .ok (.invokevirtual 40, 3) := by decide +kernel
theorem d_Spots_take_6 : decode b_Spots_take 6 = .ok (.bipush (-2), 2) := by decide +kernel
theorem d_Spots_take_8 : decode b_Spots_take 8 = .ok (.if_icmp .ne 62, 3) := by decide +kernel
theorem d_Spots_take_11 : decode b_Spots_take 11 = .ok (.aload_n 0, 1) := by decide +kernel
theorem d_Spots_take_12 : decode b_Spots_take 12 = .ok (.getfield 54, 3) := by decide +kernel
theorem d_Spots_take_15 : decode b_Spots_take 15 = .ok (.aload_n 0, 1) := by decide +kernel
theorem d_Spots_take_16 : decode b_Spots_take 16 = .ok (.getfield 25, 3) := by decide +kernel
theorem d_Spots_take_19 : decode b_Spots_take 19 = .ok (.arraylength, 1) := by decide +kernel
theorem d_Spots_take_20 : decode b_Spots_take 20 = .ok (.if_icmp .ge 50, 3) := by decide +kernel
theorem d_Spots_take_23 : decode b_Spots_take 23 = .ok (.aload_n 0, 1) := by decide +kernel
theorem d_Spots_take_24 : decode b_Spots_take 24 = .ok (.getfield 18, 3) := by decide +kernel
theorem d_Spots_take_27 : decode b_Spots_take 27 = .ok (.iload_n 2, 1) := by decide +kernel
theorem d_Spots_take_28 : decode b_Spots_take 28 = .ok (.aload_n 0, 1) := by decide +kernel
theorem d_Spots_take_29 : decode b_Spots_take 29 = .ok (.getfield 9, 3) := by decide +kernel
theorem d_Spots_take_32 : decode b_Spots_take 32 = .ok (.imul, 1) := by decide +kernel
theorem d_Spots_take_33 : decode b_Spots_take 33 = .ok (.iload_n 1, 1) := by decide +kernel

theorem d_Spots_take_34 : decode b_Spots_take 34 = .ok (.iadd, 1) := by decide +kernel
theorem d_Spots_take_35 : decode b_Spots_take 35 = .ok (.aload_n 0, 1) := by decide +kernel
theorem d_Spots_take_36 : decode b_Spots_take 36 = .ok (.getfield 34, 3) := by decide +kernel
theorem d_Spots_take_39 : decode b_Spots_take 39 = .ok (.iastore, 1) := by decide +kernel
theorem d_Spots_take_40 : decode b_Spots_take 40 = .ok (.aload_n 0, 1) := by decide +kernel
theorem d_Spots_take_41 : decode b_Spots_take 41 = .ok (.getfield 25, 3) := by decide +kernel
theorem d_Spots_take_44 : decode b_Spots_take 44 = .ok (.aload_n 0, 1) := by decide +kernel
theorem d_Spots_take_45 : decode b_Spots_take 45 = .ok (.getfield 54, 3) := by decide +kernel
theorem d_Spots_take_48 : decode b_Spots_take 48 = .ok (.iload_n 1, 1) := by decide +kernel
theorem d_Spots_take_49 : decode b_Spots_take 49 = .ok (.iastore, 1) := by decide +kernel
theorem d_Spots_take_50 : decode b_Spots_take 50 = .ok (.aload_n 0, 1) := by decide +kernel
theorem d_Spots_take_51 : decode b_Spots_take 51 = .ok (.getfield 28, 3) := by decide +kernel
theorem d_Spots_take_54 : decode b_Spots_take 54 = .ok (.aload_n 0, 1) := by decide +kernel
theorem d_Spots_take_55 : decode b_Spots_take 55 = .ok (.getfield 54, 3) := by decide +kernel
theorem d_Spots_take_58 : decode b_Spots_take 58 = .ok (.iload_n 2, 1) := by decide +kernel
theorem d_Spots_take_59 : decode b_Spots_take 59 = .ok (.iastore, 1) := by decide +kernel
theorem d_Spots_take_60 : decode b_Spots_take 60 = .ok (.aload_n 0, 1) := by decide +kernel
theorem d_Spots_take_61 : decode b_Spots_take 61 = .ok (.dup, 1) := by decide +kernel
theorem d_Spots_take_62 : decode b_Spots_take 62 = .ok (.getfield 54, 3) := by decide +kernel
theorem d_Spots_take_65 : decode b_Spots_take 65 = .ok (.iconst 1, 1) := by decide +kernel
theorem d_Spots_take_66 : decode b_Spots_take 66 = .ok (.iadd, 1) := by decide +kernel
theorem d_Spots_take_67 : decode b_Spots_take 67 = .ok (.putfield 54, 3) := by decide +kernel
theorem d_Spots_take_70 : decode b_Spots_take 70 = .ok (.return_, 1) := by decide +kernel
theorem d_Spots_joinFrom_0 : decode b_Spots_joinFrom 0 = .ok (.aload_n 0, 1) := by decide +kernel
theorem d_Spots_joinFrom_1 : decode b_Spots_joinFrom 1 = .ok (.iconst 0, 1) := by decide +kernel
theorem d_Spots_joinFrom_2 : decode b_Spots_joinFrom 2 = .ok (.putfield 54, 3) := by decide +kernel
theorem d_Spots_joinFrom_5 : decode b_Spots_joinFrom 5 = .ok (.aload_n 0, 1) := by decide +kernel
theorem d_Spots_joinFrom_6 : decode b_Spots_joinFrom 6 = .ok (.iload_n 1, 1) := by decide +kernel
theorem d_Spots_joinFrom_7 : decode b_Spots_joinFrom 7 = .ok (.iload_n 2, 1) := by decide +kernel
theorem d_Spots_joinFrom_8 : decode b_Spots_joinFrom 8 = .ok (.invokevirtual 57, 3) := by decide +kernel
theorem d_Spots_joinFrom_11 : decode b_Spots_joinFrom 11 = .ok (.iconst 0, 1) := by decide +kernel
theorem d_Spots_joinFrom_12 : decode b_Spots_joinFrom 12 = .ok (.istore_n 3, 1) := by decide +kernel
theorem d_Spots_joinFrom_13 : decode b_Spots_joinFrom 13 = .ok (.iload_n 3, 1) := by decide +kernel
theorem d_Spots_joinFrom_14 : decode b_Spots_joinFrom 14 = .ok (.aload_n 0, 1) := by decide +kernel
theorem d_Spots_joinFrom_15 : decode b_Spots_joinFrom 15 = .ok (.getfield 54, 3) := by decide +kernel
theorem d_Spots_joinFrom_18 : decode b_Spots_joinFrom 18 = .ok (.if_icmp .ge 90, 3) := by decide +kernel
theorem d_Spots_joinFrom_21 : decode b_Spots_joinFrom 21 = .ok (.iload_n 3, 1) := by decide +kernel
theorem d_Spots_joinFrom_22 : decode b_Spots_joinFrom 22 = .ok (.aload_n 0, 1) := by decide +kernel
theorem d_Spots_joinFrom_23 : decode b_Spots_joinFrom 23 = .ok (.getfield 25, 3) := by decide +kernel
theorem d_Spots_joinFrom_26 : decode b_Spots_joinFrom 26 = .ok (.arraylength, 1) := by decide +kernel
theorem d_Spots_joinFrom_27 : decode b_Spots_joinFrom 27 = .ok (.if_icmp .ge 81, 3) := by decide +kernel
theorem d_Spots_joinFrom_30 : decode b_Spots_joinFrom 30 = .ok (.aload_n 0, 1) := by decide +kernel
theorem d_Spots_joinFrom_31 : decode b_Spots_joinFrom 31 = .ok (.aload_n 0, 1) := by decide +kernel
theorem d_Spots_joinFrom_32 : decode b_Spots_joinFrom 32 = .ok (.getfield 25, 3) := by decide +kernel
theorem d_Spots_joinFrom_35 : decode b_Spots_joinFrom 35 = .ok (.iload_n 3, 1) := by decide +kernel
theorem d_Spots_joinFrom_36 : decode b_Spots_joinFrom 36 = .ok (.iaload, 1) := by decide +kernel
theorem d_Spots_joinFrom_37 : decode b_Spots_joinFrom 37 = .ok (.aload_n 0, 1) := by decide +kernel
theorem d_Spots_joinFrom_38 : decode b_Spots_joinFrom 38 = .ok (.getfield 28, 3) := by decide +kernel
theorem d_Spots_joinFrom_41 : decode b_Spots_joinFrom 41 = .ok (.iload_n 3, 1) := by decide +kernel
theorem d_Spots_joinFrom_42 : decode b_Spots_joinFrom 42 = .ok (.iaload, 1) := by decide +kernel
theorem d_Spots_joinFrom_43 : decode b_Spots_joinFrom 43 = .ok (.iconst 1, 1) := by decide +kernel
theorem d_Spots_joinFrom_44 : decode b_Spots_joinFrom 44 = .ok (.isub, 1) := by decide +kernel
theorem d_Spots_joinFrom_45 : decode b_Spots_joinFrom 45 = .ok (.invokevirtual 57, 3) := by decide +kernel
theorem d_Spots_joinFrom_48 : decode b_Spots_joinFrom 48 = .ok (.aload_n 0, 1) := by decide +kernel
theorem d_Spots_joinFrom_49 : decode b_Spots_joinFrom 49 = .ok (.aload_n 0, 1) := by decide +kernel
theorem d_Spots_joinFrom_50 : decode b_Spots_joinFrom 50 = .ok (.getfield 25, 3) := by decide +kernel
theorem d_Spots_joinFrom_53 : decode b_Spots_joinFrom 53 = .ok (.iload_n 3, 1) := by decide +kernel
theorem d_Spots_joinFrom_54 : decode b_Spots_joinFrom 54 = .ok (.iaload, 1) := by decide +kernel
theorem d_Spots_joinFrom_55 : decode b_Spots_joinFrom 55 = .ok (.iconst 1, 1) := by decide +kernel
theorem d_Spots_joinFrom_56 : decode b_Spots_joinFrom 56 = .ok (.isub, 1) := by decide +kernel
theorem d_Spots_joinFrom_57 : decode b_Spots_joinFrom 57 = .ok (.aload_n 0, 1) := by decide +kernel
theorem d_Spots_joinFrom_58 : decode b_Spots_joinFrom 58 = .ok (.getfield 28, 3) := by decide +kernel
theorem d_Spots_joinFrom_61 : decode b_Spots_joinFrom 61 = .ok (.iload_n 3, 1) := by decide +kernel
theorem d_Spots_joinFrom_62 : decode b_Spots_joinFrom 62 = .ok (.iaload, 1) := by decide +kernel
theorem d_Spots_joinFrom_63 : decode b_Spots_joinFrom 63 = .ok (.invokevirtual 57, 3) := by decide +kernel
theorem d_Spots_joinFrom_66 : decode b_Spots_joinFrom 66 = .ok (.aload_n 0, 1) := by decide +kernel
theorem d_Spots_joinFrom_67 : decode b_Spots_joinFrom 67 = .ok (.aload_n 0, 1) := by decide +kernel
theorem d_Spots_joinFrom_68 : decode b_Spots_joinFrom 68 = .ok (.getfield 25, 3) := by decide +kernel
theorem d_Spots_joinFrom_71 : decode b_Spots_joinFrom 71 = .ok (.iload_n 3, 1) := by decide +kernel
theorem d_Spots_joinFrom_72 : decode b_Spots_joinFrom 72 = .ok (.iaload, 1) := by decide +kernel
theorem d_Spots_joinFrom_73 : decode b_Spots_joinFrom 73 = .ok (.iconst 1, 1) := by decide +kernel
theorem d_Spots_joinFrom_74 : decode b_Spots_joinFrom 74 = .ok (.iadd, 1) := by decide +kernel
theorem d_Spots_joinFrom_75 : decode b_Spots_joinFrom 75 = .ok (.aload_n 0, 1) := by decide +kernel
theorem d_Spots_joinFrom_76 : decode b_Spots_joinFrom 76 = .ok (.getfield 28, 3) := by decide +kernel
theorem d_Spots_joinFrom_79 : decode b_Spots_joinFrom 79 = .ok (.iload_n 3, 1) := by decide +kernel
theorem d_Spots_joinFrom_80 : decode b_Spots_joinFrom 80 = .ok (.iaload, 1) := by decide +kernel
theorem d_Spots_joinFrom_81 : decode b_Spots_joinFrom 81 = .ok (.invokevirtual 57, 3) := by decide +kernel
theorem d_Spots_joinFrom_84 : decode b_Spots_joinFrom 84 = .ok (.aload_n 0, 1) := by decide +kernel
theorem d_Spots_joinFrom_85 : decode b_Spots_joinFrom 85 = .ok (.aload_n 0, 1) := by decide +kernel
theorem d_Spots_joinFrom_86 : decode b_Spots_joinFrom 86 = .ok (.getfield 25, 3) := by decide +kernel
theorem d_Spots_joinFrom_89 : decode b_Spots_joinFrom 89 = .ok (.iload_n 3, 1) := by decide +kernel
theorem d_Spots_joinFrom_90 : decode b_Spots_joinFrom 90 = .ok (.iaload, 1) := by decide +kernel
theorem d_Spots_joinFrom_91 : decode b_Spots_joinFrom 91 = .ok (.aload_n 0, 1) := by decide +kernel
theorem d_Spots_joinFrom_92 : decode b_Spots_joinFrom 92 = .ok (.getfield 28, 3) := by decide +kernel
theorem d_Spots_joinFrom_95 : decode b_Spots_joinFrom 95 = .ok (.iload_n 3, 1) := by decide +kernel
theorem d_Spots_joinFrom_96 : decode b_Spots_joinFrom 96 = .ok (.iaload, 1) := by decide +kernel
theorem d_Spots_joinFrom_97 : decode b_Spots_joinFrom 97 = .ok (.iconst 1, 1) := by decide +kernel
theorem d_Spots_joinFrom_98 : decode b_Spots_joinFrom 98 = .ok (.iadd, 1) := by decide +kernel
theorem d_Spots_joinFrom_99 : decode b_Spots_joinFrom 99 = .ok (.invokevirtual 57, 3) := by decide +kernel
theorem d_Spots_joinFrom_102 : decode b_Spots_joinFrom 102 = .ok (.iinc 3 1, 3) := by decide +kernel
theorem d_Spots_joinFrom_105 : decode b_Spots_joinFrom 105 = .ok (.goto (-92), 3) := by decide +kernel
theorem d_Spots_joinFrom_108 : decode b_Spots_joinFrom 108 = .ok (.return_, 1) := by decide +kernel
theorem d_Spots_ownAt_0 : decode b_Spots_ownAt 0 = .ok (.aload_n 0, 1) := by decide +kernel
theorem d_Spots_ownAt_1 : decode b_Spots_ownAt 1 = .ok (.iload_n 1, 1) := by decide +kernel
theorem d_Spots_ownAt_2 : decode b_Spots_ownAt 2 = .ok (.iload_n 2, 1) := by decide +kernel
theorem d_Spots_ownAt_3 : decode b_Spots_ownAt 3 = .ok (.invokevirtual 40, 3) := by decide +kernel
theorem d_Spots_ownAt_6 : decode b_Spots_ownAt 6 = .ok (.aload_n 0, 1) := by decide +kernel
theorem d_Spots_ownAt_7 : decode b_Spots_ownAt 7 = .ok (.getfield 34, 3) := by decide +kernel
theorem d_Spots_ownAt_10 : decode b_Spots_ownAt 10 = .ok (.if_icmp .ne 7, 3) := by decide +kernel
theorem d_Spots_ownAt_13 : decode b_Spots_ownAt 13 = .ok (.iconst 1, 1) := by decide +kernel
theorem d_Spots_ownAt_14 : decode b_Spots_ownAt 14 = .ok (.goto 4, 3) := by decide +kernel
theorem d_Spots_ownAt_17 : decode b_Spots_ownAt 17 = .ok (.iconst 0, 1) := by decide +kernel
theorem d_Spots_ownAt_18 : decode b_Spots_ownAt 18 = .ok (.ireturn, 1) := by decide +kernel
theorem d_Spots_neighboursOf_0 : decode b_Spots_neighboursOf 0 = .ok (.aload_n 0, 1) := by decide +kernel
theorem d_Spots_neighboursOf_1 : decode b_Spots_neighboursOf 1 = .ok (.iload_n 1, 1) := by decide +kernel
theorem d_Spots_neighboursOf_2 : decode b_Spots_neighboursOf 2 = .ok (.iload_n 2, 1) := by decide +kernel
theorem d_Spots_neighboursOf_3 : decode b_Spots_neighboursOf 3 = .ok (.iconst 1, 1) := by decide +kernel
theorem d_Spots_neighboursOf_4 : decode b_Spots_neighboursOf 4 = .ok (.isub, 1) := by decide +kernel
theorem d_Spots_neighboursOf_5 : decode b_Spots_neighboursOf 5 = .ok (.invokevirtual 75, 3) := by decide +kernel
theorem d_Spots_neighboursOf_8 : decode b_Spots_neighboursOf 8 = .ok (.aload_n 0, 1) := by decide +kernel
theorem d_Spots_neighboursOf_9 : decode b_Spots_neighboursOf 9 = .ok (.iload_n 1, 1) := by decide +kernel
theorem d_Spots_neighboursOf_10 : decode b_Spots_neighboursOf 10 = .ok (.iconst 1, 1) := by decide +kernel
theorem d_Spots_neighboursOf_11 : decode b_Spots_neighboursOf 11 = .ok (.isub, 1) := by decide +kernel
theorem d_Spots_neighboursOf_12 : decode b_Spots_neighboursOf 12 = .ok (.iload_n 2, 1) := by decide +kernel
theorem d_Spots_neighboursOf_13 : decode b_Spots_neighboursOf 13 = .ok (.invokevirtual 75, 3) := by decide +kernel
theorem d_Spots_neighboursOf_16 : decode b_Spots_neighboursOf 16 = .ok (.iadd, 1) := by decide +kernel
theorem d_Spots_neighboursOf_17 : decode b_Spots_neighboursOf 17 = .ok (.aload_n 0, 1) := by decide +kernel
theorem d_Spots_neighboursOf_18 : decode b_Spots_neighboursOf 18 = .ok (.iload_n 1, 1) := by decide +kernel
theorem d_Spots_neighboursOf_19 : decode b_Spots_neighboursOf 19 = .ok (.iconst 1, 1) := by decide +kernel
theorem d_Spots_neighboursOf_20 : decode b_Spots_neighboursOf 20 = .ok (.iadd, 1) := by decide +kernel
theorem d_Spots_neighboursOf_21 : decode b_Spots_neighboursOf 21 = .ok (.iload_n 2, 1) := by decide +kernel
theorem d_Spots_neighboursOf_22 : decode b_Spots_neighboursOf 22 = .ok (.invokevirtual 75, 3) := by decide +kernel
theorem d_Spots_neighboursOf_25 : decode b_Spots_neighboursOf 25 = .ok (.iadd, 1) := by decide +kernel
theorem d_Spots_neighboursOf_26 : decode b_Spots_neighboursOf 26 = .ok (.aload_n 0, 1) := by decide +kernel
theorem d_Spots_neighboursOf_27 : decode b_Spots_neighboursOf 27 = .ok (.iload_n 1, 1) := by decide +kernel
theorem d_Spots_neighboursOf_28 : decode b_Spots_neighboursOf 28 = .ok (.iload_n 2, 1) := by decide +kernel
theorem d_Spots_neighboursOf_29 : decode b_Spots_neighboursOf 29 = .ok (.iconst 1, 1) := by decide +kernel
theorem d_Spots_neighboursOf_30 : decode b_Spots_neighboursOf 30 = .ok (.iadd, 1) := by decide +kernel
theorem d_Spots_neighboursOf_31 : decode b_Spots_neighboursOf 31 = .ok (.invokevirtual 75, 3) := by decide +kernel
theorem d_Spots_neighboursOf_34 : decode b_Spots_neighboursOf 34 = .ok (.iadd, 1) := by decide +kernel
theorem d_Spots_neighboursOf_35 : decode b_Spots_neighboursOf 35 = .ok (.ireturn, 1) := by decide +kernel
theorem d_Spots_isCrack_0 : decode b_Spots_isCrack 0 = .ok (.iconst 0, 1) := by decide +kernel
theorem d_Spots_isCrack_1 : decode b_Spots_isCrack 1 = .ok (.istore_n 1, 1) := by decide +kernel
theorem d_Spots_isCrack_2 : decode b_Spots_isCrack 2 = .ok (.iconst 0, 1) := by decide +kernel
theorem d_Spots_isCrack_3 : decode b_Spots_isCrack 3 = .ok (.istore_n 2, 1) := by decide +kernel
theorem d_Spots_isCrack_4 : decode b_Spots_isCrack 4 = .ok (.iload_n 2, 1) := by decide +kernel
theorem d_Spots_isCrack_5 : decode b_Spots_isCrack 5 = .ok (.aload_n 0, 1) := by decide +kernel
theorem d_Spots_isCrack_6 : decode b_Spots_isCrack 6 = .ok (.getfield 54, 3) := by decide +kernel
theorem d_Spots_isCrack_9 : decode b_Spots_isCrack 9 = .ok (.if_icmp .ge 41, 3) := by decide +kernel
theorem d_Spots_isCrack_12 : decode b_Spots_isCrack 12 = .ok (.aload_n 0, 1) := by decide +kernel
theorem d_Spots_isCrack_13 : decode b_Spots_isCrack 13 = .ok (.aload_n 0, 1) := by decide +kernel
theorem d_Spots_isCrack_14 : decode b_Spots_isCrack 14 = .ok (.getfield 25, 3) := by decide +kernel
theorem d_Spots_isCrack_17 : decode b_Spots_isCrack 17 = .ok (.iload_n 2, 1) := by decide +kernel
theorem d_Spots_isCrack_18 : decode b_Spots_isCrack 18 = .ok (.iaload, 1) := by decide +kernel
theorem d_Spots_isCrack_19 : decode b_Spots_isCrack 19 = .ok (.aload_n 0, 1) := by decide +kernel
theorem d_Spots_isCrack_20 : decode b_Spots_isCrack 20 = .ok (.getfield 28, 3) := by decide +kernel
theorem d_Spots_isCrack_23 : decode b_Spots_isCrack 23 = .ok (.iload_n 2, 1) := by decide +kernel
theorem d_Spots_isCrack_24 : decode b_Spots_isCrack 24 = .ok (.iaload, 1) := by decide +kernel
theorem d_Spots_isCrack_25 : decode b_Spots_isCrack 25 = .ok (.invokevirtual 72, 3) := by decide +kernel
theorem d_Spots_isCrack_28 : decode b_Spots_isCrack 28 = .ok (.istore_n 3, 1) := by decide +kernel
theorem d_Spots_isCrack_29 : decode b_Spots_isCrack 29 = .ok (.iload_n 3, 1) := by decide +kernel
theorem d_Spots_isCrack_30 : decode b_Spots_isCrack 30 = .ok (.iconst 2, 1) := by decide +kernel
theorem d_Spots_isCrack_31 : decode b_Spots_isCrack 31 = .ok (.if_icmp .le 5, 3) := by decide +kernel
theorem d_Spots_isCrack_34 : decode b_Spots_isCrack 34 = .ok (.iconst 0, 1) := by decide +kernel
theorem d_Spots_isCrack_35 : decode b_Spots_isCrack 35 = .ok (.ireturn, 1) := by decide +kernel
theorem d_Spots_isCrack_36 : decode b_Spots_isCrack 36 = .ok (.iload_n 3, 1) := by decide +kernel
theorem d_Spots_isCrack_37 : decode b_Spots_isCrack 37 = .ok (.iconst 1, 1) := by decide +kernel
theorem d_Spots_isCrack_38 : decode b_Spots_isCrack 38 = .ok (.if_icmp .ne 6, 3) := by decide +kernel
theorem d_Spots_isCrack_41 : decode b_Spots_isCrack 41 = .ok (.iinc 1 1, 3) := by decide +kernel
theorem d_Spots_isCrack_44 : decode b_Spots_isCrack 44 = .ok (.iinc 2 1, 3) := by decide +kernel
theorem d_Spots_isCrack_47 : decode b_Spots_isCrack 47 = .ok (.goto (-43), 3) := by decide +kernel
theorem d_Spots_isCrack_50 : decode b_Spots_isCrack 50 = .ok (.aload_n 0, 1) := by decide +kernel
theorem d_Spots_isCrack_51 : decode b_Spots_isCrack 51 = .ok (.getfield 54, 3) := by decide +kernel
theorem d_Spots_isCrack_54 : decode b_Spots_isCrack 54 = .ok (.iconst 3, 1) := by decide +kernel
theorem d_Spots_isCrack_55 : decode b_Spots_isCrack 55 = .ok (.if_icmp .lt 12, 3) := by decide +kernel
theorem d_Spots_isCrack_58 : decode b_Spots_isCrack 58 = .ok (.iload_n 1, 1) := by decide +kernel
theorem d_Spots_isCrack_59 : decode b_Spots_isCrack 59 = .ok (.iconst 2, 1) := by decide +kernel
theorem d_Spots_isCrack_60 : decode b_Spots_isCrack 60 = .ok (.if_icmp .ne 7, 3) := by decide +kernel
theorem d_Spots_isCrack_63 : decode b_Spots_isCrack 63 = .ok (.iconst 1, 1) := by decide +kernel
theorem d_Spots_isCrack_64 : decode b_Spots_isCrack 64 = .ok (.goto 4, 3) := by decide +kernel
theorem d_Spots_isCrack_67 : decode b_Spots_isCrack 67 = .ok (.iconst 0, 1) := by decide +kernel
theorem d_Spots_isCrack_68 : decode b_Spots_isCrack 68 = .ok (.ireturn, 1) := by decide +kernel
theorem d_Spots_describe_0 : decode b_Spots_describe 0 = .ok (.iconst 0, 1) := by decide +kernel
theorem d_Spots_describe_1 : decode b_Spots_describe 1 = .ok (.istore_n 1, 1) := by decide +kernel
theorem d_Spots_describe_2 : decode b_Spots_describe 2 = .ok (.aload_n 0, 1) := by decide +kernel
theorem d_Spots_describe_3 : decode b_Spots_describe 3 = .ok (.getfield 9, 3) := by decide +kernel
theorem d_Spots_describe_6 : decode b_Spots_describe 6 = .ok (.istore_n 2, 1) := by decide +kernel
theorem d_Spots_describe_7 : decode b_Spots_describe 7 = .ok (.aload_n 0, 1) := by decide +kernel
theorem d_Spots_describe_8 : decode b_Spots_describe 8 = .ok (.getfield 15, 3) := by decide +kernel
theorem d_Spots_describe_11 : decode b_Spots_describe 11 = .ok (.istore_n 3, 1) := by decide +kernel
theorem d_Spots_describe_12 : decode b_Spots_describe 12 = .ok (.iconst 0, 1) := by decide +kernel
theorem d_Spots_describe_13 : decode b_Spots_describe 13 = .ok (.istore 4, 2) := by decide +kernel
theorem d_Spots_describe_15 : decode b_Spots_describe 15 = .ok (.iconst 0, 1) := by decide +kernel
theorem d_Spots_describe_16 : decode b_Spots_describe 16 = .ok (.istore 5, 2) := by decide +kernel
theorem d_Spots_describe_18 : decode b_Spots_describe 18 = .ok (.iconst 0, 1) := by decide +kernel
theorem d_Spots_describe_19 : decode b_Spots_describe 19 = .ok (.istore 6, 2) := by decide +kernel
theorem d_Spots_describe_21 : decode b_Spots_describe 21 = .ok (.iload 6, 2) := by decide +kernel
theorem d_Spots_describe_23 : decode b_Spots_describe 23 = .ok (.aload_n 0, 1) := by decide +kernel
theorem d_Spots_describe_24 : decode b_Spots_describe 24 = .ok (.getfield 54, 3) := by decide +kernel
theorem d_Spots_describe_27 : decode b_Spots_describe 27 = .ok (.if_icmp .ge 77, 3) := by decide +kernel
theorem d_Spots_describe_30 : decode b_Spots_describe 30 = .ok (.aload_n 0, 1) := by decide +kernel
theorem d_Spots_describe_31 : decode b_Spots_describe 31 = .ok (.getfield 25, 3) := by decide +kernel
theorem d_Spots_describe_34 : decode b_Spots_describe 34 = .ok (.iload 6, 2) := by decide +kernel
theorem d_Spots_describe_36 : decode b_Spots_describe 36 = .ok (.iaload, 1) := by decide +kernel
theorem d_Spots_describe_37 : decode b_Spots_describe 37 = .ok (.istore 7, 2) := by decide +kernel
theorem d_Spots_describe_39 : decode b_Spots_describe 39 = .ok (.aload_n 0, 1) := by decide +kernel
theorem d_Spots_describe_40 : decode b_Spots_describe 40 = .ok (.getfield 28, 3) := by decide +kernel
theorem d_Spots_describe_43 : decode b_Spots_describe 43 = .ok (.iload 6, 2) := by decide +kernel
theorem d_Spots_describe_45 : decode b_Spots_describe 45 = .ok (.iaload, 1) := by decide +kernel
theorem d_Spots_describe_46 : decode b_Spots_describe 46 = .ok (.istore 8, 2) := by decide +kernel
theorem d_Spots_describe_48 : decode b_Spots_describe 48 = .ok (.iload_n 1, 1) := by decide +kernel
theorem d_Spots_describe_49 : decode b_Spots_describe 49 = .ok (.aload_n 0, 1) := by decide +kernel
theorem d_Spots_describe_50 : decode b_Spots_describe 50 = .ok (.getfield 22, 3) := by decide +kernel
theorem d_Spots_describe_53 : decode b_Spots_describe 53 = .ok (.iload 8, 2) := by decide +kernel
theorem d_Spots_describe_55 : decode b_Spots_describe 55 = .ok (.aload_n 0, 1) := by decide +kernel
theorem d_Spots_describe_56 : decode b_Spots_describe 56 = .ok (.getfield 9, 3) := by decide +kernel
theorem d_Spots_describe_59 : decode b_Spots_describe 59 = .ok (.imul, 1) := by decide +kernel
theorem d_Spots_describe_60 : decode b_Spots_describe 60 = .ok (.iload 7, 2) := by decide +kernel
theorem d_Spots_describe_62 : decode b_Spots_describe 62 = .ok (.iadd, 1) := by decide +kernel
theorem d_Spots_describe_63 : decode b_Spots_describe 63 = .ok (.iaload, 1) := by decide +kernel
theorem d_Spots_describe_64 : decode b_Spots_describe 64 = .ok (.iadd, 1) := by decide +kernel
theorem d_Spots_describe_65 : decode b_Spots_describe 65 = .ok (.istore_n 1, 1) := by decide +kernel
theorem d_Spots_describe_66 : decode b_Spots_describe 66 = .ok (.iload_n 2, 1) := by decide +kernel
theorem d_Spots_describe_67 : decode b_Spots_describe 67 = .ok (.iload 7, 2) := by decide +kernel
theorem d_Spots_describe_69 : decode b_Spots_describe 69 = .ok (.invokestatic 60, 3) := by decide +kernel
theorem d_Spots_describe_72 : decode b_Spots_describe 72 = .ok (.istore_n 2, 1) := by decide +kernel
theorem d_Spots_describe_73 : decode b_Spots_describe 73 = .ok (.iload_n 3, 1) := by decide +kernel
theorem d_Spots_describe_74 : decode b_Spots_describe 74 = .ok (.iload 8, 2) := by decide +kernel
theorem d_Spots_describe_76 : decode b_Spots_describe 76 = .ok (.invokestatic 60, 3) := by decide +kernel
theorem d_Spots_describe_79 : decode b_Spots_describe 79 = .ok (.istore_n 3, 1) := by decide +kernel
theorem d_Spots_describe_80 : decode b_Spots_describe 80 = .ok (.iload 4, 2) := by decide +kernel
theorem d_Spots_describe_82 : decode b_Spots_describe 82 = .ok (.iload 7, 2) := by decide +kernel
theorem d_Spots_describe_84 : decode b_Spots_describe 84 = .ok (.invokestatic 65, 3) := by decide +kernel
theorem d_Spots_describe_87 : decode b_Spots_describe 87 = .ok (.istore 4, 2) := by decide +kernel
theorem d_Spots_describe_89 : decode b_Spots_describe 89 = .ok (.iload 5, 2) := by decide +kernel
theorem d_Spots_describe_91 : decode b_Spots_describe 91 = .ok (.iload 8, 2) := by decide +kernel
theorem d_Spots_describe_93 : decode b_Spots_describe 93 = .ok (.invokestatic 65, 3) := by decide +kernel
theorem d_Spots_describe_96 : decode b_Spots_describe 96 = .ok (.istore 5, 2) := by decide +kernel
theorem d_Spots_describe_98 : decode b_Spots_describe 98 = .ok (.iinc 6 1, 3) := by decide +kernel
theorem d_Spots_describe_101 : decode b_Spots_describe 101 = .ok (.goto (-80), 3) := by decide +kernel
theorem d_Spots_describe_104 : decode b_Spots_describe 104 = .ok (.aload_n 0, 1) := by decide +kernel
theorem d_Spots_describe_105 : decode b_Spots_describe 105 = .ok (.getfield 34, 3) := by decide +kernel
theorem d_Spots_describe_108 : decode b_Spots_describe 108 = .ok (.bipush 7, 2) := by decide +kernel
theorem d_Spots_describe_110 : decode b_Spots_describe 110 = .ok (.imul, 1) := by decide +kernel
theorem d_Spots_describe_111 : decode b_Spots_describe 111 = .ok (.istore 6, 2) := by decide +kernel
theorem d_Spots_describe_113 : decode b_Spots_describe 113 = .ok (.aload_n 0, 1) := by decide +kernel
theorem d_Spots_describe_114 : decode b_Spots_describe 114 = .ok (.getfield 31, 3) := by decide +kernel
theorem d_Spots_describe_117 : decode b_Spots_describe 117 = .ok (.iload 6, 2) := by decide +kernel
theorem d_Spots_describe_119 : decode b_Spots_describe 119 = .ok (.iconst 0, 1) := by decide +kernel
theorem d_Spots_describe_120 : decode b_Spots_describe 120 = .ok (.iadd, 1) := by decide +kernel
theorem d_Spots_describe_121 : decode b_Spots_describe 121 = .ok (.aload_n 0, 1) := by decide +kernel
theorem d_Spots_describe_122 : decode b_Spots_describe 122 = .ok (.getfield 54, 3) := by decide +kernel
theorem d_Spots_describe_125 : decode b_Spots_describe 125 = .ok (.iastore, 1) := by decide +kernel
theorem d_Spots_describe_126 : decode b_Spots_describe 126 = .ok (.aload_n 0, 1) := by decide +kernel
theorem d_Spots_describe_127 : decode b_Spots_describe 127 = .ok (.getfield 31, 3) := by decide +kernel
theorem d_Spots_describe_130 : decode b_Spots_describe 130 = .ok (.iload 6, 2) := by decide +kernel
theorem d_Spots_describe_132 : decode b_Spots_describe 132 = .ok (.iconst 1, 1) := by decide +kernel
theorem d_Spots_describe_133 : decode b_Spots_describe 133 = .ok (.iadd, 1) := by decide +kernel
theorem d_Spots_describe_134 : decode b_Spots_describe 134 = .ok (.iload_n 1, 1) := by decide +kernel
theorem d_Spots_describe_135 : decode b_Spots_describe 135 = .ok (.iastore, 1) := by decide +kernel
theorem d_Spots_describe_136 : decode b_Spots_describe 136 = .ok (.aload_n 0, 1) := by decide +kernel
theorem d_Spots_describe_137 : decode b_Spots_describe 137 = .ok (.getfield 31, 3) := by decide +kernel
theorem d_Spots_describe_140 : decode b_Spots_describe 140 = .ok (.iload 6, 2) := by decide +kernel
theorem d_Spots_describe_142 : decode b_Spots_describe 142 = .ok (.iconst 2, 1) := by decide +kernel
theorem d_Spots_describe_143 : decode b_Spots_describe 143 = .ok (.iadd, 1) := by decide +kernel
theorem d_Spots_describe_144 : decode b_Spots_describe 144 = .ok (.iload_n 2, 1) := by decide +kernel
theorem d_Spots_describe_145 : decode b_Spots_describe 145 = .ok (.iastore, 1) := by decide +kernel
theorem d_Spots_describe_146 : decode b_Spots_describe 146 = .ok (.aload_n 0, 1) := by decide +kernel
theorem d_Spots_describe_147 : decode b_Spots_describe 147 = .ok (.getfield 31, 3) := by decide +kernel
theorem d_Spots_describe_150 : decode b_Spots_describe 150 = .ok (.iload 6, 2) := by decide +kernel
theorem d_Spots_describe_152 : decode b_Spots_describe 152 = .ok (.iconst 3, 1) := by decide +kernel
theorem d_Spots_describe_153 : decode b_Spots_describe 153 = .ok (.iadd, 1) := by decide +kernel
theorem d_Spots_describe_154 : decode b_Spots_describe 154 = .ok (.iload_n 3, 1) := by decide +kernel
theorem d_Spots_describe_155 : decode b_Spots_describe 155 = .ok (.iastore, 1) := by decide +kernel
theorem d_Spots_describe_156 : decode b_Spots_describe 156 = .ok (.aload_n 0, 1) := by decide +kernel
theorem d_Spots_describe_157 : decode b_Spots_describe 157 = .ok (.getfield 31, 3) := by decide +kernel
theorem d_Spots_describe_160 : decode b_Spots_describe 160 = .ok (.iload 6, 2) := by decide +kernel
theorem d_Spots_describe_162 : decode b_Spots_describe 162 = .ok (.iconst 4, 1) := by decide +kernel
theorem d_Spots_describe_163 : decode b_Spots_describe 163 = .ok (.iadd, 1) := by decide +kernel
theorem d_Spots_describe_164 : decode b_Spots_describe 164 = .ok (.iload 4, 2) := by decide +kernel
theorem d_Spots_describe_166 : decode b_Spots_describe 166 = .ok (.iastore, 1) := by decide +kernel
theorem d_Spots_describe_167 : decode b_Spots_describe 167 = .ok (.aload_n 0, 1) := by decide +kernel
theorem d_Spots_describe_168 : decode b_Spots_describe 168 = .ok (.getfield 31, 3) := by decide +kernel
theorem d_Spots_describe_171 : decode b_Spots_describe 171 = .ok (.iload 6, 2) := by decide +kernel
theorem d_Spots_describe_173 : decode b_Spots_describe 173 = .ok (.iconst 5, 1) := by decide +kernel
theorem d_Spots_describe_174 : decode b_Spots_describe 174 = .ok (.iadd, 1) := by decide +kernel
theorem d_Spots_describe_175 : decode b_Spots_describe 175 = .ok (.iload 5, 2) := by decide +kernel
theorem d_Spots_describe_177 : decode b_Spots_describe 177 = .ok (.iastore, 1) := by decide +kernel
theorem d_Spots_describe_178 : decode b_Spots_describe 178 = .ok (.aload_n 0, 1) := by decide +kernel
theorem d_Spots_describe_179 : decode b_Spots_describe 179 = .ok (.getfield 31, 3) := by decide +kernel
theorem d_Spots_describe_182 : decode b_Spots_describe 182 = .ok (.iload 6, 2) := by decide +kernel
theorem d_Spots_describe_184 : decode b_Spots_describe 184 = .ok (.bipush 6, 2) := by decide +kernel
theorem d_Spots_describe_186 : decode b_Spots_describe 186 = .ok (.iadd, 1) := by decide +kernel
theorem d_Spots_describe_187 : decode b_Spots_describe 187 = .ok (.aload_n 0, 1) := by decide +kernel
theorem d_Spots_describe_188 : decode b_Spots_describe 188 = .ok (.invokevirtual 68, 3) := by decide +kernel
theorem d_Spots_describe_191 : decode b_Spots_describe 191 = .ok (.ifCond .eq 12, 3) := by decide +kernel
theorem d_Spots_describe_194 : decode b_Spots_describe 194 = .ok (.aload_n 0, 1) := by decide +kernel
theorem d_Spots_describe_195 : decode b_Spots_describe 195 = .ok (.getfield 54, 3) := by decide +kernel
theorem d_Spots_describe_198 : decode b_Spots_describe 198 = .ok (.iconst 1, 1) := by decide +kernel
theorem d_Spots_describe_199 : decode b_Spots_describe 199 = .ok (.isub, 1) := by decide +kernel
theorem d_Spots_describe_200 : decode b_Spots_describe 200 = .ok (.goto 4, 3) := by decide +kernel
theorem d_Spots_describe_203 : decode b_Spots_describe 203 = .ok (.iconst (-1), 1) := by decide +kernel
theorem d_Spots_describe_204 : decode b_Spots_describe 204 = .ok (.iastore, 1) := by decide +kernel
theorem d_Spots_describe_205 : decode b_Spots_describe 205 = .ok (.return_, 1) := by decide +kernel
theorem d_Spots_join_0 : decode b_Spots_join 0 = .ok (.iconst 0, 1) := by decide +kernel
theorem d_Spots_join_1 : decode b_Spots_join 1 = .ok (.istore_n 1, 1) := by decide +kernel
theorem d_Spots_join_2 : decode b_Spots_join 2 = .ok (.iload_n 1, 1) := by decide +kernel
theorem d_Spots_join_3 : decode b_Spots_join 3 = .ok (.aload_n 0, 1) := by decide +kernel
theorem d_Spots_join_4 : decode b_Spots_join 4 = .ok (.getfield 15, 3) := by decide +kernel
theorem d_Spots_join_7 : decode b_Spots_join 7 = .ok (.if_icmp .ge 73, 3) := by decide +kernel
theorem d_Spots_join_10 : decode b_Spots_join 10 = .ok (.iconst 0, 1) := by decide +kernel
theorem d_Spots_join_11 : decode b_Spots_join 11 = .ok (.istore_n 2, 1) := by decide +kernel
theorem d_Spots_join_12 : decode b_Spots_join 12 = .ok (.iload_n 2, 1) := by decide +kernel
theorem d_Spots_join_13 : decode b_Spots_join 13 = .ok (.aload_n 0, 1) := by decide +kernel
theorem d_Spots_join_14 : decode b_Spots_join 14 = .ok (.getfield 9, 3) := by decide +kernel
theorem d_Spots_join_17 : decode b_Spots_join 17 = .ok (.if_icmp .ge 57, 3) := by decide +kernel
theorem d_Spots_join_20 : decode b_Spots_join 20 = .ok (.aload_n 0, 1) := by decide +kernel
theorem d_Spots_join_21 : decode b_Spots_join 21 = .ok (.iload_n 2, 1) := by decide +kernel
theorem d_Spots_join_22 : decode b_Spots_join 22 = .ok (.iload_n 1, 1) := by decide +kernel
theorem d_Spots_join_23 : decode b_Spots_join 23 = .ok (.invokevirtual 40, 3) := by decide +kernel
theorem d_Spots_join_26 : decode b_Spots_join 26 = .ok (.bipush (-2), 2) := by decide +kernel
theorem d_Spots_join_28 : decode b_Spots_join 28 = .ok (.if_icmp .ne 40, 3) := by decide +kernel
theorem d_Spots_join_31 : decode b_Spots_join 31 = .ok (.aload_n 0, 1) := by decide +kernel
theorem d_Spots_join_32 : decode b_Spots_join 32 = .ok (.getfield 34, 3) := by decide +kernel
theorem d_Spots_join_35 : decode b_Spots_join 35 = .ok (.iconst 1, 1) := by decide +kernel
theorem d_Spots_join_36 : decode b_Spots_join 36 = .ok (.iadd, 1) := by decide +kernel
theorem d_Spots_join_37 : decode b_Spots_join 37 = .ok (.bipush 7, 2) := by decide +kernel
theorem d_Spots_join_39 : decode b_Spots_join 39 = .ok (.imul, 1) := by decide +kernel
theorem d_Spots_join_40 : decode b_Spots_join 40 = .ok (.aload_n 0, 1) := by decide +kernel
theorem d_Spots_join_41 : decode b_Spots_join 41 = .ok (.getfield 31, 3) := by decide +kernel
theorem d_Spots_join_44 : decode b_Spots_join 44 = .ok (.arraylength, 1) := by decide +kernel
theorem d_Spots_join_45 : decode b_Spots_join 45 = .ok (.if_icmp .gt 23, 3) := by decide +kernel
theorem d_Spots_join_48 : decode b_Spots_join 48 = .ok (.aload_n 0, 1) := by decide +kernel
theorem d_Spots_join_49 : decode b_Spots_join 49 = .ok (.iload_n 2, 1) := by decide +kernel
theorem d_Spots_join_50 : decode b_Spots_join 50 = .ok (.iload_n 1, 1) := by decide +kernel
theorem d_Spots_join_51 : decode b_Spots_join 51 = .ok (.invokevirtual 44, 3) := by decide +kernel
theorem d_Spots_join_54 : decode b_Spots_join 54 = .ok (.aload_n 0, 1) := by decide +kernel
theorem d_Spots_join_55 : decode b_Spots_join 55 = .ok (.invokevirtual 48, 3) := by decide +kernel
theorem d_Spots_join_58 : decode b_Spots_join 58 = .ok (.aload_n 0, 1) := by decide +kernel
theorem d_Spots_join_59 : decode b_Spots_join 59 = .ok (.dup, 1) := by decide +kernel
theorem d_Spots_join_60 : decode b_Spots_join 60 = .ok (.getfield 34, 3) := by decide +kernel
theorem d_Spots_join_63 : decode b_Spots_join 63 = .ok (.iconst 1, 1) := by decide +kernel
theorem d_Spots_join_64 : decode b_Spots_join 64 = .ok (.iadd, 1) := by decide +kernel
theorem d_Spots_join_65 : decode b_Spots_join 65 = .ok (.putfield 34, 3) := by decide +kernel
theorem d_Spots_join_68 : decode b_Spots_join 68 = .ok (.iinc 2 1, 3) := by decide +kernel
theorem d_Spots_join_71 : decode b_Spots_join 71 = .ok (.goto (-59), 3) := by decide +kernel
theorem d_Spots_join_74 : decode b_Spots_join 74 = .ok (.iinc 1 1, 3) := by decide +kernel
theorem d_Spots_join_77 : decode b_Spots_join 77 = .ok (.goto (-75), 3) := by decide +kernel
theorem d_Spots_join_80 : decode b_Spots_join 80 = .ok (.return_, 1) := by decide +kernel
theorem d_Spots_factOf_0 : decode b_Spots_factOf 0 = .ok (.aload_n 0, 1) := by decide +kernel
theorem d_Spots_factOf_1 : decode b_Spots_factOf 1 = .ok (.getfield 31, 3) := by decide +kernel
theorem d_Spots_factOf_4 : decode b_Spots_factOf 4 = .ok (.iload_n 1, 1) := by decide +kernel
theorem d_Spots_factOf_5 : decode b_Spots_factOf 5 = .ok (.bipush 7, 2) := by decide +kernel
theorem d_Spots_factOf_7 : decode b_Spots_factOf 7 = .ok (.imul, 1) := by decide +kernel
theorem d_Spots_factOf_8 : decode b_Spots_factOf 8 = .ok (.iload_n 2, 1) := by decide +kernel
theorem d_Spots_factOf_9 : decode b_Spots_factOf 9 = .ok (.iadd, 1) := by decide +kernel
theorem d_Spots_factOf_10 : decode b_Spots_factOf 10 = .ok (.iaload, 1) := by decide +kernel
theorem d_Spots_factOf_11 : decode b_Spots_factOf 11 = .ok (.ireturn, 1) := by decide +kernel
theorem d_Spots_isAlarming_0 : decode b_Spots_isAlarming 0 = .ok (.aload_n 0, 1) := by decide +kernel
theorem d_Spots_isAlarming_1 : decode b_Spots_isAlarming 1 = .ok (.iload_n 1, 1) := by decide +kernel
theorem d_Spots_isAlarming_2 : decode b_Spots_isAlarming 2 = .ok (.bipush 6, 2) := by decide +kernel
theorem d_Spots_isAlarming_4 : decode b_Spots_isAlarming 4 = .ok (.invokevirtual 51, 3) := by decide +kernel
theorem d_Spots_isAlarming_7 : decode b_Spots_isAlarming 7 = .ok (.istore 4, 2) := by decide +kernel
theorem d_Spots_isAlarming_9 : decode b_Spots_isAlarming 9 = .ok (.aload_n 0, 1) := by decide +kernel
theorem d_Spots_isAlarming_10 : decode b_Spots_isAlarming 10 = .ok (.iload_n 1, 1) := by decide +kernel
theorem d_Spots_isAlarming_11 : decode b_Spots_isAlarming 11 = .ok (.iconst 1, 1) := by decide +kernel
theorem d_Spots_isAlarming_12 : decode b_Spots_isAlarming 12 = .ok (.invokevirtual 51, 3) := by decide +kernel
theorem d_Spots_isAlarming_15 : decode b_Spots_isAlarming 15 = .ok (.iload_n 2, 1) := by decide +kernel
theorem d_Spots_isAlarming_16 : decode b_Spots_isAlarming 16 = .ok (.if_icmp .gt 15, 3) := by decide +kernel
theorem d_Spots_isAlarming_19 : decode b_Spots_isAlarming 19 = .ok (.iload 4, 2) := by decide +kernel
theorem d_Spots_isAlarming_21 : decode b_Spots_isAlarming 21 = .ok (.iconst (-1), 1) := by decide +kernel
theorem d_Spots_isAlarming_22 : decode b_Spots_isAlarming 22 = .ok (.if_icmp .eq 13, 3) := by decide +kernel
theorem d_Spots_isAlarming_25 : decode b_Spots_isAlarming 25 = .ok (.iload 4, 2) := by decide +kernel
theorem d_Spots_isAlarming_27 : decode b_Spots_isAlarming 27 = .ok (.iload_n 3, 1) := by decide +kernel
theorem d_Spots_isAlarming_28 : decode b_Spots_isAlarming 28 = .ok (.if_icmp .lt 7, 3) := by decide +kernel
theorem d_Spots_isAlarming_31 : decode b_Spots_isAlarming 31 = .ok (.iconst 1, 1) := by decide +kernel
theorem d_Spots_isAlarming_32 : decode b_Spots_isAlarming 32 = .ok (.goto 4, 3) := by decide +kernel
theorem d_Spots_isAlarming_35 : decode b_Spots_isAlarming 35 = .ok (.iconst 0, 1) := by decide +kernel
theorem d_Spots_isAlarming_36 : decode b_Spots_isAlarming 36 = .ok (.ireturn, 1) := by decide +kernel

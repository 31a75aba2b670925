theorem dX2_guess_33 : decode cX2_guess 33 = .ok (.isub, 1) := by decide +kernel
theorem dX2_guess_34 : decode cX2_guess 34 = .ok (.iconst 1, 1) := by decide +kernel
theorem dX2_guess_35 : decode cX2_guess 35 = .ok (.iadd, 1) := by decide +kernel
theorem dX2_guess_36 : decode cX2_guess 36 = .ok (.istore 5, 2) := by decide +kernel
theorem dX2_guess_38 : decode cX2_guess 38 = .ok (.aload_n 0, 1) := by decide +kernel
theorem dX2_guess_39 : decode cX2_guess 39 = .ok (.getfield 24, 3) := by decide +kernel
theorem dX2_guess_42 : decode cX2_guess 42 = .ok (.iload 4, 2) := by decide +kernel
theorem dX2_guess_44 : decode cX2_guess 44 = .ok (.iaload, 1) := by decide +kernel
theorem dX2_guess_45 : decode cX2_guess 45 = .ok (.iload_n 2, 1) := by decide +kernel
theorem dX2_guess_46 : decode cX2_guess 46 = .ok (.invokestatic 63, 3) := by decide +kernel
theorem dX2_guess_49 : decode cX2_guess 49 = .ok (.aload_n 0, 1) := by decide +kernel
theorem dX2_guess_50 : decode cX2_guess 50 = .ok (.getfield 21, 3) := by decide +kernel
theorem dX2_guess_53 : decode cX2_guess 53 = .ok (.iload 4, 2) := by decide +kernel
theorem dX2_guess_55 : decode cX2_guess 55 = .ok (.iaload, 1) := by decide +kernel
theorem dX2_guess_56 : decode cX2_guess 56 = .ok (.iload_n 1, 1) := by decide +kernel
theorem dX2_guess_57 : decode cX2_guess 57 = .ok (.invokestatic 91, 3) := by decide +kernel
theorem dX2_guess_60 : decode cX2_guess 60 = .ok (.isub, 1) := by decide +kernel
theorem dX2_guess_61 : decode cX2_guess 61 = .ok (.iconst 1, 1) := by decide +kernel
theorem dX2_guess_62 : decode cX2_guess 62 = .ok (.iadd, 1) := by decide +kernel
theorem dX2_guess_63 : decode cX2_guess 63 = .ok (.istore 6, 2) := by decide +kernel
theorem dX2_guess_65 : decode cX2_guess 65 = .ok (.iload 5, 2) := by decide +kernel
theorem dX2_guess_67 : decode cX2_guess 67 = .ok (.ifCond .le 24, 3) := by decide +kernel
theorem dX2_guess_70 : decode cX2_guess 70 = .ok (.iload 6, 2) := by decide +kernel
theorem dX2_guess_72 : decode cX2_guess 72 = .ok (.ifCond .le 19, 3) := by decide +kernel
theorem dX2_guess_75 : decode cX2_guess 75 = .ok (.iload_n 3, 1) := by decide +kernel
theorem dX2_guess_76 : decode cX2_guess 76 = .ok (.aload_n 0, 1) := by decide +kernel
theorem dX2_guess_77 : decode cX2_guess 77 = .ok (.getfield 27, 3) := by decide +kernel
theorem dX2_guess_80 : decode cX2_guess 80 = .ok (.iload 4, 2) := by decide +kernel
theorem dX2_guess_82 : decode cX2_guess 82 = .ok (.iaload, 1) := by decide +kernel
theorem dX2_guess_83 : decode cX2_guess 83 = .ok (.iload 6, 2) := by decide +kernel
theorem dX2_guess_85 : decode cX2_guess 85 = .ok (.imul, 1) := by decide +kernel
theorem dX2_guess_86 : decode cX2_guess 86 = .ok (.iload 5, 2) := by decide +kernel
theorem dX2_guess_88 : decode cX2_guess 88 = .ok (.idiv, 1) := by decide +kernel
theorem dX2_guess_89 : decode cX2_guess 89 = .ok (.iadd, 1) := by decide +kernel
theorem dX2_guess_90 : decode cX2_guess 90 = .ok (.istore_n 3, 1) := by decide +kernel
theorem dX2_guess_91 : decode cX2_guess 91 = .ok (.iinc 4 1, 3) := by decide +kernel
theorem dX2_guess_94 : decode cX2_guess 94 = .ok (.goto (-84), 3) := by decide +kernel
theorem dX2_guess_97 : decode cX2_guess 97 = .ok (.iload_n 3, 1) := by decide +kernel
theorem dX2_guess_98 : decode cX2_guess 98 = .ok (.ireturn, 1) := by decide +kernel
theorem dX2_least_0 : decode cX2_least 0 = .ok (.aload_n 0, 1) := by decide +kernel
theorem dX2_least_1 : decode cX2_least 1 = .ok (.iload_n 1, 1) := by decide +kernel
theorem dX2_least_2 : decode cX2_least 2 = .ok (.iload_n 2, 1) := by decide +kernel
theorem dX2_least_3 : decode cX2_least 3 = .ok (.invokevirtual 88, 3) := by decide +kernel
theorem dX2_least_6 : decode cX2_least 6 = .ok (.istore_n 3, 1) := by decide +kernel
theorem dX2_least_7 : decode cX2_least 7 = .ok (.iconst 0, 1) := by decide +kernel
theorem dX2_least_8 : decode cX2_least 8 = .ok (.istore 4, 2) := by decide +kernel
theorem dX2_least_10 : decode cX2_least 10 = .ok (.iload 4, 2) := by decide +kernel
theorem dX2_least_12 : decode cX2_least 12 = .ok (.aload_n 0, 1) := by decide +kernel
theorem dX2_least_13 : decode cX2_least 13 = .ok (.getfield 68, 3) := by decide +kernel
theorem dX2_least_16 : decode cX2_least 16 = .ok (.if_icmp .ge 45, 3) := by decide +kernel
theorem dX2_least_19 : decode cX2_least 19 = .ok (.iload_n 3, 1) := by decide +kernel
theorem dX2_least_20 : decode cX2_least 20 = .ok (.iload_n 1, 1) := by decide +kernel
theorem dX2_least_21 : decode cX2_least 21 = .ok (.aload_n 0, 1) := by decide +kernel
theorem dX2_least_22 : decode cX2_least 22 = .ok (.getfield 21, 3) := by decide +kernel
theorem dX2_least_25 : decode cX2_least 25 = .ok (.iload 4, 2) := by decide +kernel
theorem dX2_least_27 : decode cX2_least 27 = .ok (.iaload, 1) := by decide +kernel
theorem dX2_least_28 : decode cX2_least 28 = .ok (.if_icmp .gt 24, 3) := by decide +kernel
theorem dX2_least_31 : decode cX2_least 31 = .ok (.aload_n 0, 1) := by decide +kernel
theorem dX2_least_32 : decode cX2_least 32 = .ok (.getfield 24, 3) := by decide +kernel
theorem dX2_least_35 : decode cX2_least 35 = .ok (.iload 4, 2) := by decide +kernel
theorem dX2_least_37 : decode cX2_least 37 = .ok (.iaload, 1) := by decide +kernel
theorem dX2_least_38 : decode cX2_least 38 = .ok (.iload_n 2, 1) := by decide +kernel
theorem dX2_least_39 : decode cX2_least 39 = .ok (.if_icmp .gt 13, 3) := by decide +kernel
theorem dX2_least_42 : decode cX2_least 42 = .ok (.aload_n 0, 1) := by decide +kernel
theorem dX2_least_43 : decode cX2_least 43 = .ok (.getfield 27, 3) := by decide +kernel
theorem dX2_least_46 : decode cX2_least 46 = .ok (.iload 4, 2) := by decide +kernel
theorem dX2_least_48 : decode cX2_least 48 = .ok (.iaload, 1) := by decide +kernel
theorem dX2_least_49 : decode cX2_least 49 = .ok (.goto 4, 3) := by decide +kernel
theorem dX2_least_52 : decode cX2_least 52 = .ok (.iconst 0, 1) := by decide +kernel
theorem dX2_least_53 : decode cX2_least 53 = .ok (.iadd, 1) := by decide +kernel
theorem dX2_least_54 : decode cX2_least 54 = .ok (.istore_n 3, 1) := by decide +kernel
theorem dX2_least_55 : decode cX2_least 55 = .ok (.iinc 4 1, 3) := by decide +kernel
theorem dX2_least_58 : decode cX2_least 58 = .ok (.goto (-48), 3) := by decide +kernel
theorem dX2_least_61 : decode cX2_least 61 = .ok (.iload_n 3, 1) := by decide +kernel
theorem dX2_least_62 : decode cX2_least 62 = .ok (.ireturn, 1) := by decide +kernel
theorem dX2_most_0 : decode cX2_most 0 = .ok (.aload_n 0, 1) := by decide +kernel
theorem dX2_most_1 : decode cX2_most 1 = .ok (.iload_n 1, 1) := by decide +kernel
theorem dX2_most_2 : decode cX2_most 2 = .ok (.iload_n 2, 1) := by decide +kernel
theorem dX2_most_3 : decode cX2_most 3 = .ok (.invokevirtual 88, 3) := by decide +kernel
theorem dX2_most_6 : decode cX2_most 6 = .ok (.istore_n 3, 1) := by decide +kernel
theorem dX2_most_7 : decode cX2_most 7 = .ok (.iconst 0, 1) := by decide +kernel
theorem dX2_most_8 : decode cX2_most 8 = .ok (.istore 4, 2) := by decide +kernel
theorem dX2_most_10 : decode cX2_most 10 = .ok (.iload 4, 2) := by decide +kernel
theorem dX2_most_12 : decode cX2_most 12 = .ok (.aload_n 0, 1) := by decide +kernel
theorem dX2_most_13 : decode cX2_most 13 = .ok (.getfield 68, 3) := by decide +kernel
theorem dX2_most_16 : decode cX2_most 16 = .ok (.if_icmp .ge 45, 3) := by decide +kernel
theorem dX2_most_19 : decode cX2_most 19 = .ok (.iload_n 3, 1) := by decide +kernel
theorem dX2_most_20 : decode cX2_most 20 = .ok (.iload_n 1, 1) := by decide +kernel
theorem dX2_most_21 : decode cX2_most 21 = .ok (.aload_n 0, 1) := by decide +kernel
theorem dX2_most_22 : decode cX2_most 22 = .ok (.getfield 24, 3) := by decide +kernel
theorem dX2_most_25 : decode cX2_most 25 = .ok (.iload 4, 2) := by decide +kernel
theorem dX2_most_27 : decode cX2_most 27 = .ok (.iaload, 1) := by decide +kernel
theorem dX2_most_28 : decode cX2_most 28 = .ok (.if_icmp .gt 24, 3) := by decide +kernel
theorem dX2_most_31 : decode cX2_most 31 = .ok (.aload_n 0, 1) := by decide +kernel
theorem dX2_most_32 : decode cX2_most 32 = .ok (.getfield 21, 3) := by decide +kernel
theorem dX2_most_35 : decode cX2_most 35 = .ok (.iload 4, 2) := by decide +kernel
theorem dX2_most_37 : decode cX2_most 37 = .ok (.iaload, 1) := by decide +kernel
theorem dX2_most_38 : decode cX2_most 38 = .ok (.iload_n 2, 1) := by decide +kernel
theorem dX2_most_39 : decode cX2_most 39 = .ok (.if_icmp .gt 13, 3) := by decide +kernel
theorem dX2_most_42 : decode cX2_most 42 = .ok (.aload_n 0, 1) := by decide +kernel
theorem dX2_most_43 : decode cX2_most 43 = .ok (.getfield 27, 3) := by decide +kernel
theorem dX2_most_46 : decode cX2_most 46 = .ok (.iload 4, 2) := by decide +kernel
theorem dX2_most_48 : decode cX2_most 48 = .ok (.iaload, 1) := by decide +kernel
theorem dX2_most_49 : decode cX2_most 49 = .ok (.goto 4, 3) := by decide +kernel
theorem dX2_most_52 : decode cX2_most 52 = .ok (.iconst 0, 1) := by decide +kernel
theorem dX2_most_53 : decode cX2_most 53 = .ok (.iadd, 1) := by decide +kernel
theorem dX2_most_54 : decode cX2_most 54 = .ok (.istore_n 3, 1) := by decide +kernel
theorem dX2_most_55 : decode cX2_most 55 = .ok (.iinc 4 1, 3) := by decide +kernel
theorem dX2_most_58 : decode cX2_most 58 = .ok (.goto (-48), 3) := by decide +kernel
theorem dX2_most_61 : decode cX2_most 61 = .ok (.iload_n 3, 1) := by decide +kernel
theorem dX2_most_62 : decode cX2_most 62 = .ok (.ireturn, 1) := by decide +kernel
theorem dX2_miss_0 : decode cX2_miss 0 = .ok (.iload_n 1, 1) := by decide +kernel
theorem dX2_miss_1 : decode cX2_miss 1 = .ok (.invokestatic 94, 3) := by decide +kernel
theorem dX2_miss_4 : decode cX2_miss 4 = .ok (.ifCond .eq 22, 3) := by decide +kernel
theorem dX2_miss_7 : decode cX2_miss 7 = .ok (.aload_n 0, 1) := by decide +kernel
theorem dX2_miss_8 : decode cX2_miss 8 = .ok (.iload_n 1, 1) := by decide +kernel
theorem dX2_miss_9 : decode cX2_miss 9 = .ok (.iload_n 1, 1) := by decide +kernel
theorem dX2_miss_10 : decode cX2_miss 10 = .ok (.invokevirtual 97, 3) := by decide +kernel
theorem dX2_miss_13 : decode cX2_miss 13 = .ok (.aload_n 0, 1) := by decide +kernel
theorem dX2_miss_14 : decode cX2_miss 14 = .ok (.getfield 9, 3) := by decide +kernel
theorem dX2_miss_17 : decode cX2_miss 17 = .ok (.iload_n 1, 1) := by decide +kernel
theorem dX2_miss_18 : decode cX2_miss 18 = .ok (.iaload, 1) := by decide +kernel
theorem dX2_miss_19 : decode cX2_miss 19 = .ok (.isub, 1) := by decide +kernel
theorem dX2_miss_20 : decode cX2_miss 20 = .ok (.invokestatic 100, 3) := by decide +kernel
theorem dX2_miss_23 : decode cX2_miss 23 = .ok (.goto 4, 3) := by decide +kernel
theorem dX2_miss_26 : decode cX2_miss 26 = .ok (.iconst 0, 1) := by decide +kernel
theorem dX2_miss_27 : decode cX2_miss 27 = .ok (.ireturn, 1) := by decide +kernel
theorem dX2_worstValue_0 : decode cX2_worstValue 0 = .ok (.iconst 0, 1) := by decide +kernel
theorem dX2_worstValue_1 : decode cX2_worstValue 1 = .ok (.istore_n 1, 1) := by decide +kernel
theorem dX2_worstValue_2 : decode cX2_worstValue 2 = .ok (.aload_n 0, 1) := by decide +kernel
theorem dX2_worstValue_3 : decode cX2_worstValue 3 = .ok (.iconst 0, 1) := by decide +kernel
theorem dX2_worstValue_4 : decode cX2_worstValue 4 = .ok (.invokevirtual 103, 3) := by decide +kernel
theorem dX2_worstValue_7 : decode cX2_worstValue 7 = .ok (.istore_n 2, 1) := by decide +kernel
theorem dX2_worstValue_8 : decode cX2_worstValue 8 = .ok (.iconst 1, 1) := by decide +kernel
theorem dX2_worstValue_9 : decode cX2_worstValue 9 = .ok (.istore_n 3, 1) := by decide +kernel
theorem dX2_worstValue_10 : decode cX2_worstValue 10 = .ok (.iload_n 3, 1) := by decide +kernel
theorem dX2_worstValue_11 : decode cX2_worstValue 11 = .ok (.bipush 100, 2) := by decide +kernel
theorem dX2_worstValue_13 : decode cX2_worstValue 13 = .ok (.if_icmp .ge 27, 3) := by decide +kernel
theorem dX2_worstValue_16 : decode cX2_worstValue 16 = .ok (.aload_n 0, 1) := by decide +kernel
theorem dX2_worstValue_17 : decode cX2_worstValue 17 = .ok (.iload_n 3, 1) := by decide +kernel
theorem dX2_worstValue_18 : decode cX2_worstValue 18 = .ok (.invokevirtual 103, 3) := by decide +kernel
theorem dX2_worstValue_21 : decode cX2_worstValue 21 = .ok (.istore 4, 2) := by decide +kernel
theorem dX2_worstValue_23 : decode cX2_worstValue 23 = .ok (.iload 4, 2) := by decide +kernel
theorem dX2_worstValue_25 : decode cX2_worstValue 25 = .ok (.iload_n 2, 1) := by decide +kernel
theorem dX2_worstValue_26 : decode cX2_worstValue 26 = .ok (.if_icmp .le 8, 3) := by decide +kernel
theorem dX2_worstValue_29 : decode cX2_worstValue 29 = .ok (.iload_n 3, 1) := by decide +kernel
theorem dX2_worstValue_30 : decode cX2_worstValue 30 = .ok (.istore_n 1, 1) := by decide +kernel
theorem dX2_worstValue_31 : decode cX2_worstValue 31 = .ok (.iload 4, 2) := by decide +kernel
theorem dX2_worstValue_33 : decode cX2_worstValue 33 = .ok (.istore_n 2, 1) := by decide +kernel
theorem dX2_worstValue_34 : decode cX2_worstValue 34 = .ok (.iinc 3 1, 3) := by decide +kernel
theorem dX2_worstValue_37 : decode cX2_worstValue 37 = .ok (.goto (-27), 3) := by decide +kernel
theorem dX2_worstValue_40 : decode cX2_worstValue 40 = .ok (.iload_n 1, 1) := by decide +kernel
theorem dX2_worstValue_41 : decode cX2_worstValue 41 = .ok (.ireturn, 1) := by decide +kernel
theorem dX2_copyFrom_0 : decode cX2_copyFrom 0 = .ok (.aload_n 1, 1) := by decide +kernel
theorem dX2_copyFrom_1 : decode cX2_copyFrom 1 = .ok (.getfield 9, 3) := by decide +kernel
theorem dX2_copyFrom_4 : decode cX2_copyFrom 4 = .ok (.aload_n 0, 1) := by decide +kernel
theorem dX2_copyFrom_5 : decode cX2_copyFrom 5 = .ok (.getfield 9, 3) := by decide +kernel
theorem dX2_copyFrom_8 : decode cX2_copyFrom 8 = .ok (.invokestatic 106, 3) := by decide +kernel
theorem dX2_copyFrom_11 : decode cX2_copyFrom 11 = .ok (.aload_n 1, 1) := by decide +kernel
theorem dX2_copyFrom_12 : decode cX2_copyFrom 12 = .ok (.getfield 15, 3) := by decide +kernel
theorem dX2_copyFrom_15 : decode cX2_copyFrom 15 = .ok (.aload_n 0, 1) := by decide +kernel
theorem dX2_copyFrom_16 : decode cX2_copyFrom 16 = .ok (.getfield 15, 3) := by decide +kernel
theorem dX2_copyFrom_19 : decode cX2_copyFrom 19 = .ok (.invokestatic 106, 3) := by decide +kernel
theorem dX2_copyFrom_22 : decode cX2_copyFrom 22 = .ok (.aload_n 1, 1) := by decide +kernel
theorem dX2_copyFrom_23 : decode cX2_copyFrom 23 = .ok (.getfield 18, 3) := by decide +kernel
theorem dX2_copyFrom_26 : decode cX2_copyFrom 26 = .ok (.aload_n 0, 1) := by decide +kernel
theorem dX2_copyFrom_27 : decode cX2_copyFrom 27 = .ok (.getfield 18, 3) := by decide +kernel
theorem dX2_copyFrom_30 : decode cX2_copyFrom 30 = .ok (.invokestatic 106, 3) := by decide +kernel
theorem dX2_copyFrom_33 : decode cX2_copyFrom 33 = .ok (.aload_n 0, 1) := by decide +kernel
theorem dX2_copyFrom_34 : decode cX2_copyFrom 34 = .ok (.aload_n 1, 1) := by decide +kernel
theorem dX2_copyFrom_35 : decode cX2_copyFrom 35 = .ok (.getfield 55, 3) := by decide +kernel
theorem dX2_copyFrom_38 : decode cX2_copyFrom 38 = .ok (.putfield 55, 3) := by decide +kernel
theorem dX2_copyFrom_41 : decode cX2_copyFrom 41 = .ok (.aload_n 1, 1) := by decide +kernel
theorem dX2_copyFrom_42 : decode cX2_copyFrom 42 = .ok (.getfield 21, 3) := by decide +kernel
theorem dX2_copyFrom_45 : decode cX2_copyFrom 45 = .ok (.aload_n 0, 1) := by decide +kernel
theorem dX2_copyFrom_46 : decode cX2_copyFrom 46 = .ok (.getfield 21, 3) := by decide +kernel
theorem dX2_copyFrom_49 : decode cX2_copyFrom 49 = .ok (.invokestatic 106, 3) := by decide +kernel
theorem dX2_copyFrom_52 : decode cX2_copyFrom 52 = .ok (.aload_n 1, 1) := by decide +kernel
theorem dX2_copyFrom_53 : decode cX2_copyFrom 53 = .ok (.getfield 24, 3) := by decide +kernel
theorem dX2_copyFrom_56 : decode cX2_copyFrom 56 = .ok (.aload_n 0, 1) := by decide +kernel
theorem dX2_copyFrom_57 : decode cX2_copyFrom 57 = .ok (.getfield 24, 3) := by decide +kernel
theorem dX2_copyFrom_60 : decode cX2_copyFrom 60 = .ok (.invokestatic 106, 3) := by decide +kernel
theorem dX2_copyFrom_63 : decode cX2_copyFrom 63 = .ok (.aload_n 1, 1) := by decide +kernel
theorem dX2_copyFrom_64 : decode cX2_copyFrom 64 = .ok (.getfield 27, 3) := by decide +kernel
theorem dX2_copyFrom_67 : decode cX2_copyFrom 67 = .ok (.aload_n 0, 1) := by decide +kernel
theorem dX2_copyFrom_68 : decode cX2_copyFrom 68 = .ok (.getfield 27, 3) := by decide +kernel
theorem dX2_copyFrom_71 : decode cX2_copyFrom 71 = .ok (.invokestatic 106, 3) := by decide +kernel
theorem dX2_copyFrom_74 : decode cX2_copyFrom 74 = .ok (.aload_n 1, 1) := by decide +kernel
theorem dX2_copyFrom_75 : decode cX2_copyFrom 75 = .ok (.getfield 30, 3) := by decide +kernel
theorem dX2_copyFrom_78 : decode cX2_copyFrom 78 = .ok (.aload_n 0, 1) := by decide +kernel
theorem dX2_copyFrom_79 : decode cX2_copyFrom 79 = .ok (.getfield 30, 3) := by decide +kernel
theorem dX2_copyFrom_82 : decode cX2_copyFrom 82 = .ok (.invokestatic 106, 3) := by decide +kernel
theorem dX2_copyFrom_85 : decode cX2_copyFrom 85 = .ok (.aload_n 0, 1) := by decide +kernel
theorem dX2_copyFrom_86 : decode cX2_copyFrom 86 = .ok (.aload_n 1, 1) := by decide +kernel
theorem dX2_copyFrom_87 : decode cX2_copyFrom 87 = .ok (.getfield 68, 3) := by decide +kernel
theorem dX2_copyFrom_90 : decode cX2_copyFrom 90 = .ok (.putfield 68, 3) := by decide +kernel
theorem dX2_copyFrom_93 : decode cX2_copyFrom 93 = .ok (.return_, 1) := by decide +kernel
theorem dX3_init_0 : decode cX3_init 0 = .ok (.aload_n 0, 1) := by decide +kernel
theorem dX3_init_1 : decode cX3_init 1 = .ok (.invokespecial 3, 3) := by decide +kernel
theorem dX3_init_4 : decode cX3_init 4 = .ok (.aload_n 0, 1) := by decide +kernel
theorem dX3_init_5 : decode cX3_init 5 = .ok (.bipush 7, 2) := by decide +kernel
theorem dX3_init_7 : decode cX3_init 7 = .ok (.anewarray 11, 3) := by decide +kernel
theorem dX3_init_10 : decode cX3_init 10 = .ok (.putfield 13, 3) := by decide +kernel
theorem dX3_init_13 : decode cX3_init 13 = .ok (.return_, 1) := by decide +kernel
theorem dX3_prepare_0 : decode cX3_prepare 0 = .ok (.aload_n 0, 1) := by decide +kernel
theorem dX3_prepare_1 : decode cX3_prepare 1 = .ok (.getfield 17, 3) := by decide +kernel
theorem dX3_prepare_4 : decode cX3_prepare 4 = .ok (.ifCond .lt 15, 3) := by decide +kernel
theorem dX3_prepare_7 : decode cX3_prepare 7 = .ok (.aload_n 0, 1) := by decide +kernel
theorem dX3_prepare_8 : decode cX3_prepare 8 = .ok (.getfield 17, 3) := by decide +kernel
theorem dX3_prepare_11 : decode cX3_prepare 11 = .ok (.aload_n 0, 1) := by decide +kernel
theorem dX3_prepare_12 : decode cX3_prepare 12 = .ok (.getfield 13, 3) := by decide +kernel
theorem dX3_prepare_15 : decode cX3_prepare 15 = .ok (.arraylength, 1) := by decide +kernel
theorem dX3_prepare_16 : decode cX3_prepare 16 = .ok (.if_icmp .lt 4, 3) := by decide +kernel
theorem dX3_prepare_19 : decode cX3_prepare 19 = .ok (.return_, 1) := by decide +kernel
theorem dX3_prepare_20 : decode cX3_prepare 20 = .ok (.aload_n 0, 1) := by decide +kernel
theorem dX3_prepare_21 : decode cX3_prepare 21 = .ok (.getfield 13, 3) := by decide +kernel
theorem dX3_prepare_24 : decode cX3_prepare 24 = .ok (.aload_n 0, 1) := by decide +kernel
theorem dX3_prepare_25 : decode cX3_prepare 25 = .ok (.getfield 17, 3) := by decide +kernel
theorem dX3_prepare_28 : decode cX3_prepare 28 = .ok (.aaload, 1) := by decide +kernel
theorem dX3_prepare_29 : decode cX3_prepare 29 = .ok (.astore_n 2, 1) := by decide +kernel
theorem dX3_prepare_30 : decode cX3_prepare 30 = .ok (.aload_n 2, 1) := by decide +kernel
theorem dX3_prepare_31 : decode cX3_prepare 31 = .ok (.ifnonnull 21, 3) := by decide +kernel
theorem dX3_prepare_34 : decode cX3_prepare 34 = .ok (.new 11, 3) := by decide +kernel
theorem dX3_prepare_37 : decode cX3_prepare 37 = .ok (.dup, 1) := by decide +kernel
theorem dX3_prepare_38 : decode cX3_prepare 38 = .ok (.invokespecial 21, 3) := by decide +kernel
theorem dX3_prepare_41 : decode cX3_prepare 41 = .ok (.astore_n 2, 1) := by decide +kernel
theorem dX3_prepare_42 : decode cX3_prepare 42 = .ok (.aload_n 0, 1) := by decide +kernel
theorem dX3_prepare_43 : decode cX3_prepare 43 = .ok (.getfield 13, 3) := by decide +kernel
theorem dX3_prepare_46 : decode cX3_prepare 46 = .ok (.aload_n 0, 1) := by decide +kernel
theorem dX3_prepare_47 : decode cX3_prepare 47 = .ok (.getfield 17, 3) := by decide +kernel
theorem dX3_prepare_50 : decode cX3_prepare 50 = .ok (.aload_n 2, 1) := by decide +kernel
theorem dX3_prepare_51 : decode cX3_prepare 51 = .ok (.aastore, 1) := by decide +kernel
theorem dX3_prepare_52 : decode cX3_prepare 52 = .ok (.aload_n 2, 1) := by decide +kernel
theorem dX3_prepare_53 : decode cX3_prepare 53 = .ok (.aload_n 1, 1) := by decide +kernel
theorem dX3_prepare_54 : decode cX3_prepare 54 = .ok (.invokevirtual 22, 3) := by decide +kernel
theorem dX3_prepare_57 : decode cX3_prepare 57 = .ok (.return_, 1) := by decide +kernel
theorem dX3_keep_0 : decode cX3_keep 0 = .ok (.aload_n 0, 1) := by decide +kernel
theorem dX3_keep_1 : decode cX3_keep 1 = .ok (.aload_n 0, 1) := by decide +kernel
theorem dX3_keep_2 : decode cX3_keep 2 = .ok (.getfield 17, 3) := by decide +kernel
theorem dX3_keep_5 : decode cX3_keep 5 = .ok (.iconst 1, 1) := by decide +kernel
theorem dX3_keep_6 : decode cX3_keep 6 = .ok (.iadd, 1) := by decide +kernel
theorem dX3_keep_7 : decode cX3_keep 7 = .ok (.bipush 7, 2) := by decide +kernel
theorem dX3_keep_9 : decode cX3_keep 9 = .ok (.irem, 1) := by decide +kernel
theorem dX3_keep_10 : decode cX3_keep 10 = .ok (.putfield 17, 3) := by decide +kernel
theorem dX3_keep_13 : decode cX3_keep 13 = .ok (.aload_n 0, 1) := by decide +kernel
theorem dX3_keep_14 : decode cX3_keep 14 = .ok (.aload_n 0, 1) := by decide +kernel
theorem dX3_keep_15 : decode cX3_keep 15 = .ok (.getfield 26, 3) := by decide +kernel
theorem dX3_keep_18 : decode cX3_keep 18 = .ok (.iconst 1, 1) := by decide +kernel
theorem dX3_keep_19 : decode cX3_keep 19 = .ok (.iadd, 1) := by decide +kernel
theorem dX3_keep_20 : decode cX3_keep 20 = .ok (.bipush 6, 2) := by decide +kernel
theorem dX3_keep_22 : decode cX3_keep 22 = .ok (.invokestatic 29, 3) := by decide +kernel
theorem dX3_keep_25 : decode cX3_keep 25 = .ok (.putfield 26, 3) := by decide +kernel
theorem dX3_keep_28 : decode cX3_keep 28 = .ok (.return_, 1) := by decide +kernel
theorem dX3_bringBack_0 : decode cX3_bringBack 0 = .ok (.aload_n 0, 1) := by decide +kernel
theorem dX3_bringBack_1 : decode cX3_bringBack 1 = .ok (.getfield 17, 3) := by decide +kernel
theorem dX3_bringBack_4 : decode cX3_bringBack 4 = .ok (.bipush 7, 2) := by decide +kernel
theorem dX3_bringBack_6 : decode cX3_bringBack 6 = .ok (.iadd, 1) := by decide +kernel
theorem dX3_bringBack_7 : decode cX3_bringBack 7 = .ok (.iconst 1, 1) := by decide +kernel
theorem dX3_bringBack_8 : decode cX3_bringBack 8 = .ok (.isub, 1) := by decide +kernel
theorem dX3_bringBack_9 : decode cX3_bringBack 9 = .ok (.bipush 7, 2) := by decide +kernel
theorem dX3_bringBack_11 : decode cX3_bringBack 11 = .ok (.irem, 1) := by decide +kernel
theorem dX3_bringBack_12 : decode cX3_bringBack 12 = .ok (.istore_n 2, 1) := by decide +kernel
theorem dX3_bringBack_13 : decode cX3_bringBack 13 = .ok (.aload_n 0, 1) := by decide +kernel
theorem dX3_bringBack_14 : decode cX3_bringBack 14 = .ok (.getfield 26, 3) := by decide +kernel
theorem dX3_bringBack_17 : decode cX3_bringBack 17 = .ok (.ifCond .le 16, 3) := by decide +kernel
theorem dX3_bringBack_20 : decode cX3_bringBack 20 = .ok (.iload_n 2, 1) := by decide +kernel
theorem dX3_bringBack_21 : decode cX3_bringBack 21 = .ok (.ifCond .lt 12, 3) := by decide +kernel
theorem dX3_bringBack_24 : decode cX3_bringBack 24 = .ok (.iload_n 2, 1) := by decide +kernel
theorem dX3_bringBack_25 : decode cX3_bringBack 25 = .ok (.aload_n 0, 1) := by decide +kernel
theorem dX3_bringBack_26 : decode cX3_bringBack 26 = .ok (.getfield 13, 3) := by decide +kernel
theorem dX3_bringBack_29 : decode cX3_bringBack 29 = .ok (.arraylength, 1) := by decide +kernel
theorem dX3_bringBack_30 : decode cX3_bringBack 30 = .ok (.if_icmp .lt 4, 3) := by decide +kernel
theorem dX3_bringBack_33 : decode cX3_bringBack 33 = .ok (.return_, 1) := by decide +kernel
theorem dX3_bringBack_34 : decode cX3_bringBack 34 = .ok (.aload_n 0, 1) := by decide +kernel
theorem dX3_bringBack_35 : decode cX3_bringBack 35 = .ok (.getfield 13, 3) := by decide +kernel
theorem dX3_bringBack_38 : decode cX3_bringBack 38 = .ok (.iload_n 2, 1) := by decide +kernel
theorem dX3_bringBack_39 : decode cX3_bringBack 39 = .ok (.aaload, 1) := by decide +kernel
theorem dX3_bringBack_40 : decode cX3_bringBack 40 = .ok (.astore_n 3, 1) := by decide +kernel
theorem dX3_bringBack_41 : decode cX3_bringBack 41 = .ok (.aload_n 3, 1) := by decide +kernel
theorem dX3_bringBack_42 : decode cX3_bringBack 42 = .ok (.ifnonnull 4, 3) := by decide +kernel
theorem dX3_bringBack_45 : decode cX3_bringBack 45 = .ok (.return_, 1) := by decide +kernel
theorem dX3_bringBack_46 : decode cX3_bringBack 46 = .ok (.aload_n 1, 1) := by decide +kernel
theorem dX3_bringBack_47 : decode cX3_bringBack 47 = .ok (.aload_n 3, 1) := by decide +kernel
theorem dX3_bringBack_48 : decode cX3_bringBack 48 = .ok (.invokevirtual 22, 3) := by decide +kernel
theorem dX3_bringBack_51 : decode cX3_bringBack 51 = .ok (.aload_n 0, 1) := by decide +kernel
theorem dX3_bringBack_52 : decode cX3_bringBack 52 = .ok (.iload_n 2, 1) := by decide +kernel
theorem dX3_bringBack_53 : decode cX3_bringBack 53 = .ok (.putfield 17, 3) := by decide +kernel
theorem dX3_bringBack_56 : decode cX3_bringBack 56 = .ok (.aload_n 0, 1) := by decide +kernel
theorem dX3_bringBack_57 : decode cX3_bringBack 57 = .ok (.dup, 1) := by decide +kernel
theorem dX3_bringBack_58 : decode cX3_bringBack 58 = .ok (.getfield 26, 3) := by decide +kernel
theorem dX3_bringBack_61 : decode cX3_bringBack 61 = .ok (.iconst 1, 1) := by decide +kernel
theorem dX3_bringBack_62 : decode cX3_bringBack 62 = .ok (.isub, 1) := by decide +kernel
theorem dX3_bringBack_63 : decode cX3_bringBack 63 = .ok (.putfield 26, 3) := by decide +kernel
theorem dX3_bringBack_66 : decode cX3_bringBack 66 = .ok (.return_, 1) := by decide +kernel
theorem dX4_init_0 : decode cX4_init 0 = .ok (.aload_n 0, 1) := by decide +kernel
theorem dX4_init_1 : decode cX4_init 1 = .ok (.invokespecial 3, 3) := by decide +kernel
theorem dX4_init_4 : decode cX4_init 4 = .ok (.aload_n 0, 1) := by decide +kernel
theorem dX4_init_5 : decode cX4_init 5 = .ok (.bipush 80, 2) := by decide +kernel
theorem dX4_init_7 : decode cX4_init 7 = .ok (.newarray .char, 2) := by decide +kernel
theorem dX4_init_9 : decode cX4_init 9 = .ok (.putfield 9, 3) := by decide +kernel
theorem dX4_init_12 : decode cX4_init 12 = .ok (.return_, 1) := by decide +kernel
theorem dX5_init_0 : decode cX5_init 0 = .ok (.aload_n 0, 1) := by decide +kernel
theorem dX5_init_1 : decode cX5_init 1 = .ok (.invokespecial 3, 3) := by decide +kernel
theorem dX5_init_4 : decode cX5_init 4 = .ok (.aload_n 0, 1) := by decide +kernel
theorem dX5_init_5 : decode cX5_init 5 = .ok (.bipush 6, 2) := by decide +kernel
theorem dX5_init_7 : decode cX5_init 7 = .ok (.newarray .int, 2) := by decide +kernel
theorem dX5_init_9 : decode cX5_init 9 = .ok (.putfield 9, 3) := by decide +kernel
theorem dX5_init_12 : decode cX5_init 12 = .ok (.aload_n 0, 1) := by decide +kernel
theorem dX5_init_13 : decode cX5_init 13 = .ok (.bipush 6, 2) := by decide +kernel
theorem dX5_init_15 : decode cX5_init 15 = .ok (.newarray .int, 2) := by decide +kernel
theorem dX5_init_17 : decode cX5_init 17 = .ok (.putfield 15, 3) := by decide +kernel
theorem dX5_init_20 : decode cX5_init 20 = .ok (.aload_n 0, 1) := by decide +kernel
theorem dX5_init_21 : decode cX5_init 21 = .ok (.bipush 6, 2) := by decide +kernel
theorem dX5_init_23 : decode cX5_init 23 = .ok (.newarray .int, 2) := by decide +kernel
theorem dX5_init_25 : decode cX5_init 25 = .ok (.putfield 18, 3) := by decide +kernel
theorem dX5_init_28 : decode cX5_init 28 = .ok (.return_, 1) := by decide +kernel
theorem dX5_learn_0 : decode cX5_learn 0 = .ok (.aload_n 0, 1) := by decide +kernel
theorem dX5_learn_1 : decode cX5_learn 1 = .ok (.iconst 0, 1) := by decide +kernel
theorem dX5_learn_2 : decode cX5_learn 2 = .ok (.putfield 21, 3) := by decide +kernel
theorem dX5_learn_5 : decode cX5_learn 5 = .ok (.ldc 25, 2) := by decide +kernel
theorem dX5_learn_7 : decode cX5_learn 7 = .ok (.istore_n 3, 1) := by decide +kernel
theorem dX5_learn_8 : decode cX5_learn 8 = .ok (.iconst 0, 1) := by decide +kernel
theorem dX5_learn_9 : decode cX5_learn 9 = .ok (.istore 4, 2) := by decide +kernel
theorem dX5_learn_11 : decode cX5_learn 11 = .ok (.iload 4, 2) := by decide +kernel
theorem dX5_learn_13 : decode cX5_learn 13 = .ok (.iload_n 2, 1) := by decide +kernel
theorem dX5_learn_14 : decode cX5_learn 14 = .ok (.if_icmp .ge 82, 3) := by decide +kernel
theorem dX5_learn_17 : decode cX5_learn 17 = .ok (.iload 4, 2) := by decide +kernel
theorem dX5_learn_19 : decode cX5_learn 19 = .ok (.bipush 6, 2) := by decide +kernel
theorem dX5_learn_21 : decode cX5_learn 21 = .ok (.if_icmp .ge 75, 3) := by decide +kernel
theorem dX5_learn_24 : decode cX5_learn 24 = .ok (.aload_n 1, 1) := by decide +kernel
theorem dX5_learn_25 : decode cX5_learn 25 = .ok (.iload_n 3, 1) := by decide +kernel
theorem dX5_learn_26 : decode cX5_learn 26 = .ok (.invokestatic 26, 3) := by decide +kernel
theorem dX5_learn_29 : decode cX5_learn 29 = .ok (.istore_n 3, 1) := by decide +kernel
theorem dX5_learn_30 : decode cX5_learn 30 = .ok (.iload_n 3, 1) := by decide +kernel
theorem dX5_learn_31 : decode cX5_learn 31 = .ok (.ifCond .ne 4, 3) := by decide +kernel
theorem dX5_learn_34 : decode cX5_learn 34 = .ok (.return_, 1) := by decide +kernel
theorem dX5_learn_35 : decode cX5_learn 35 = .ok (.aload_n 0, 1) := by decide +kernel
theorem dX5_learn_36 : decode cX5_learn 36 = .ok (.getfield 9, 3) := by decide +kernel
theorem dX5_learn_39 : decode cX5_learn 39 = .ok (.iload 4, 2) := by decide +kernel
theorem dX5_learn_41 : decode cX5_learn 41 = .ok (.bipush 99, 2) := by decide +kernel
theorem dX5_learn_43 : decode cX5_learn 43 = .ok (.iload_n 3, 1) := by decide +kernel
theorem dX5_learn_44 : decode cX5_learn 44 = .ok (.bipush 100, 2) := by decide +kernel
theorem dX5_learn_46 : decode cX5_learn 46 = .ok (.idiv, 1) := by decide +kernel
theorem dX5_learn_47 : decode cX5_learn 47 = .ok (.bipush 100, 2) := by decide +kernel
theorem dX5_learn_49 : decode cX5_learn 49 = .ok (.irem, 1) := by decide +kernel
theorem dX5_learn_50 : decode cX5_learn 50 = .ok (.isub, 1) := by decide +kernel
theorem dX5_learn_51 : decode cX5_learn 51 = .ok (.iastore, 1) := by decide +kernel
theorem dX5_learn_52 : decode cX5_learn 52 = .ok (.aload_n 0, 1) := by decide +kernel
theorem dX5_learn_53 : decode cX5_learn 53 = .ok (.getfield 15, 3) := by decide +kernel
theorem dX5_learn_56 : decode cX5_learn 56 = .ok (.iload 4, 2) := by decide +kernel
theorem dX5_learn_58 : decode cX5_learn 58 = .ok (.bipush 99, 2) := by decide +kernel
theorem dX5_learn_60 : decode cX5_learn 60 = .ok (.iload_n 3, 1) := by decide +kernel
theorem dX5_learn_61 : decode cX5_learn 61 = .ok (.bipush 100, 2) := by decide +kernel
theorem dX5_learn_63 : decode cX5_learn 63 = .ok (.irem, 1) := by decide +kernel
theorem dX5_learn_64 : decode cX5_learn 64 = .ok (.isub, 1) := by decide +kernel
theorem dX5_learn_65 : decode cX5_learn 65 = .ok (.iastore, 1) := by decide +kernel
theorem dX5_learn_66 : decode cX5_learn 66 = .ok (.aload_n 0, 1) := by decide +kernel
theorem dX5_learn_67 : decode cX5_learn 67 = .ok (.getfield 18, 3) := by decide +kernel
theorem dX5_learn_70 : decode cX5_learn 70 = .ok (.iload 4, 2) := by decide +kernel
theorem dX5_learn_72 : decode cX5_learn 72 = .ok (.iload_n 3, 1) := by decide +kernel
theorem dX5_learn_73 : decode cX5_learn 73 = .ok (.bipush 100, 2) := by decide +kernel
theorem dX5_learn_75 : decode cX5_learn 75 = .ok (.idiv, 1) := by decide +kernel
theorem dX5_learn_76 : decode cX5_learn 76 = .ok (.bipush 100, 2) := by decide +kernel
theorem dX5_learn_78 : decode cX5_learn 78 = .ok (.idiv, 1) := by decide +kernel
theorem dX5_learn_79 : decode cX5_learn 79 = .ok (.iastore, 1) := by decide +kernel
theorem dX5_learn_80 : decode cX5_learn 80 = .ok (.aload_n 0, 1) := by decide +kernel
theorem dX5_learn_81 : decode cX5_learn 81 = .ok (.dup, 1) := by decide +kernel
theorem dX5_learn_82 : decode cX5_learn 82 = .ok (.getfield 21, 3) := by decide +kernel
theorem dX5_learn_85 : decode cX5_learn 85 = .ok (.iconst 1, 1) := by decide +kernel
theorem dX5_learn_86 : decode cX5_learn 86 = .ok (.iadd, 1) := by decide +kernel
theorem dX5_learn_87 : decode cX5_learn 87 = .ok (.putfield 21, 3) := by decide +kernel
theorem dX5_learn_90 : decode cX5_learn 90 = .ok (.iinc 4 1, 3) := by decide +kernel
theorem dX5_learn_93 : decode cX5_learn 93 = .ok (.goto (-82), 3) := by decide +kernel
theorem dX5_learn_96 : decode cX5_learn 96 = .ok (.return_, 1) := by decide +kernel
theorem dX5_nextRank_0 : decode cX5_nextRank 0 = .ok (.iconst 0, 1) := by decide +kernel
theorem dX5_nextRank_1 : decode cX5_nextRank 1 = .ok (.istore_n 2, 1) := by decide +kernel
theorem dX5_nextRank_2 : decode cX5_nextRank 2 = .ok (.iconst 0, 1) := by decide +kernel
theorem dX5_nextRank_3 : decode cX5_nextRank 3 = .ok (.istore_n 3, 1) := by decide +kernel
theorem dX5_nextRank_4 : decode cX5_nextRank 4 = .ok (.iload_n 3, 1) := by decide +kernel
theorem dX5_nextRank_5 : decode cX5_nextRank 5 = .ok (.aload_n 0, 1) := by decide +kernel
theorem dX5_nextRank_6 : decode cX5_nextRank 6 = .ok (.getfield 30, 3) := by decide +kernel
theorem dX5_nextRank_9 : decode cX5_nextRank 9 = .ok (.if_icmp .ge 75, 3) := by decide +kernel
theorem dX5_nextRank_12 : decode cX5_nextRank 12 = .ok (.aload_n 0, 1) := by decide +kernel
theorem dX5_nextRank_13 : decode cX5_nextRank 13 = .ok (.iload_n 3, 1) := by decide +kernel
theorem dX5_nextRank_14 : decode cX5_nextRank 14 = .ok (.invokevirtual 35, 3) := by decide +kernel
theorem dX5_nextRank_17 : decode cX5_nextRank 17 = .ok (.istore 4, 2) := by decide +kernel
theorem dX5_nextRank_19 : decode cX5_nextRank 19 = .ok (.bipush 99, 2) := by decide +kernel
theorem dX5_nextRank_21 : decode cX5_nextRank 21 = .ok (.aload_n 0, 1) := by decide +kernel
theorem dX5_nextRank_22 : decode cX5_nextRank 22 = .ok (.iload_n 3, 1) := by decide +kernel
theorem dX5_nextRank_23 : decode cX5_nextRank 23 = .ok (.iconst 0, 1) := by decide +kernel
theorem dX5_nextRank_24 : decode cX5_nextRank 24 = .ok (.invokevirtual 39, 3) := by decide +kernel
theorem dX5_nextRank_27 : decode cX5_nextRank 27 = .ok (.isub, 1) := by decide +kernel
theorem dX5_nextRank_28 : decode cX5_nextRank 28 = .ok (.istore 5, 2) := by decide +kernel
theorem dX5_nextRank_30 : decode cX5_nextRank 30 = .ok (.bipush 99, 2) := by decide +kernel
theorem dX5_nextRank_32 : decode cX5_nextRank 32 = .ok (.aload_n 0, 1) := by decide +kernel
theorem dX5_nextRank_33 : decode cX5_nextRank 33 = .ok (.iload_n 3, 1) := by decide +kernel
theorem dX5_nextRank_34 : decode cX5_nextRank 34 = .ok (.iconst 1, 1) := by decide +kernel
theorem dX5_nextRank_35 : decode cX5_nextRank 35 = .ok (.invokevirtual 39, 3) := by decide +kernel
theorem dX5_nextRank_38 : decode cX5_nextRank 38 = .ok (.isub, 1) := by decide +kernel
theorem dX5_nextRank_39 : decode cX5_nextRank 39 = .ok (.istore 6, 2) := by decide +kernel
theorem dX5_nextRank_41 : decode cX5_nextRank 41 = .ok (.iload 4, 2) := by decide +kernel
theorem dX5_nextRank_43 : decode cX5_nextRank 43 = .ok (.bipush 100, 2) := by decide +kernel
theorem dX5_nextRank_45 : decode cX5_nextRank 45 = .ok (.imul, 1) := by decide +kernel
theorem dX5_nextRank_46 : decode cX5_nextRank 46 = .ok (.iload 5, 2) := by decide +kernel
theorem dX5_nextRank_48 : decode cX5_nextRank 48 = .ok (.iadd, 1) := by decide +kernel
theorem dX5_nextRank_49 : decode cX5_nextRank 49 = .ok (.bipush 100, 2) := by decide +kernel
theorem dX5_nextRank_51 : decode cX5_nextRank 51 = .ok (.imul, 1) := by decide +kernel
theorem dX5_nextRank_52 : decode cX5_nextRank 52 = .ok (.iload 6, 2) := by decide +kernel
theorem dX5_nextRank_54 : decode cX5_nextRank 54 = .ok (.iadd, 1) := by decide +kernel
theorem dX5_nextRank_55 : decode cX5_nextRank 55 = .ok (.istore 7, 2) := by decide +kernel
theorem dX5_nextRank_57 : decode cX5_nextRank 57 = .ok (.iload 4, 2) := by decide +kernel
theorem dX5_nextRank_59 : decode cX5_nextRank 59 = .ok (.iconst 2, 1) := by decide +kernel
theorem dX5_nextRank_60 : decode cX5_nextRank 60 = .ok (.if_icmp .lt 18, 3) := by decide +kernel
theorem dX5_nextRank_63 : decode cX5_nextRank 63 = .ok (.iload 7, 2) := by decide +kernel
theorem dX5_nextRank_65 : decode cX5_nextRank 65 = .ok (.iload_n 1, 1) := by decide +kernel
theorem dX5_nextRank_66 : decode cX5_nextRank 66 = .ok (.if_icmp .ge 12, 3) := by decide +kernel
theorem dX5_nextRank_69 : decode cX5_nextRank 69 = .ok (.iload 7, 2) := by decide +kernel
theorem dX5_nextRank_71 : decode cX5_nextRank 71 = .ok (.iload_n 2, 1) := by decide +kernel
theorem dX5_nextRank_72 : decode cX5_nextRank 72 = .ok (.if_icmp .le 6, 3) := by decide +kernel
theorem dX5_nextRank_75 : decode cX5_nextRank 75 = .ok (.iload 7, 2) := by decide +kernel
theorem dX5_nextRank_77 : decode cX5_nextRank 77 = .ok (.istore_n 2, 1) := by decide +kernel
theorem dX5_nextRank_78 : decode cX5_nextRank 78 = .ok (.iinc 3 1, 3) := by decide +kernel
theorem dX5_nextRank_81 : decode cX5_nextRank 81 = .ok (.goto (-77), 3) := by decide +kernel
theorem dX5_nextRank_84 : decode cX5_nextRank 84 = .ok (.iload_n 2, 1) := by decide +kernel
theorem dX5_nextRank_85 : decode cX5_nextRank 85 = .ok (.ireturn, 1) := by decide +kernel
theorem dX5_rowsInside_0 : decode cX5_rowsInside 0 = .ok (.iconst 0, 1) := by decide +kernel
theorem dX5_rowsInside_1 : decode cX5_rowsInside 1 = .ok (.istore 5, 2) := by decide +kernel
theorem dX5_rowsInside_3 : decode cX5_rowsInside 3 = .ok (.iconst 0, 1) := by decide +kernel
theorem dX5_rowsInside_4 : decode cX5_rowsInside 4 = .ok (.istore 6, 2) := by decide +kernel
theorem dX5_rowsInside_6 : decode cX5_rowsInside 6 = .ok (.iload 6, 2) := by decide +kernel
theorem dX5_rowsInside_8 : decode cX5_rowsInside 8 = .ok (.aload_n 0, 1) := by decide +kernel
theorem dX5_rowsInside_9 : decode cX5_rowsInside 9 = .ok (.getfield 21, 3) := by decide +kernel
theorem dX5_rowsInside_12 : decode cX5_rowsInside 12 = .ok (.if_icmp .ge 52, 3) := by decide +kernel
theorem dX5_rowsInside_15 : decode cX5_rowsInside 15 = .ok (.aload_n 0, 1) := by decide +kernel
theorem dX5_rowsInside_16 : decode cX5_rowsInside 16 = .ok (.getfield 9, 3) := by decide +kernel
theorem dX5_rowsInside_19 : decode cX5_rowsInside 19 = .ok (.iload 6, 2) := by decide +kernel
theorem dX5_rowsInside_21 : decode cX5_rowsInside 21 = .ok (.iaload, 1) := by decide +kernel
theorem dX5_rowsInside_22 : decode cX5_rowsInside 22 = .ok (.iload_n 1, 1) := by decide +kernel
theorem dX5_rowsInside_23 : decode cX5_rowsInside 23 = .ok (.iload_n 2, 1) := by decide +kernel
theorem dX5_rowsInside_24 : decode cX5_rowsInside 24 = .ok (.invokestatic 43, 3) := by decide +kernel
theorem dX5_rowsInside_27 : decode cX5_rowsInside 27 = .ok (.ifCond .eq 31, 3) := by decide +kernel
theorem dX5_rowsInside_30 : decode cX5_rowsInside 30 = .ok (.aload_n 0, 1) := by decide +kernel
theorem dX5_rowsInside_31 : decode cX5_rowsInside 31 = .ok (.getfield 15, 3) := by decide +kernel
theorem dX5_rowsInside_34 : decode cX5_rowsInside 34 = .ok (.iload 6, 2) := by decide +kernel
theorem dX5_rowsInside_36 : decode cX5_rowsInside 36 = .ok (.iaload, 1) := by decide +kernel
theorem dX5_rowsInside_37 : decode cX5_rowsInside 37 = .ok (.iload_n 3, 1) := by decide +kernel
theorem dX5_rowsInside_38 : decode cX5_rowsInside 38 = .ok (.iload 4, 2) := by decide +kernel
theorem dX5_rowsInside_40 : decode cX5_rowsInside 40 = .ok (.invokestatic 43, 3) := by decide +kernel
theorem dX5_rowsInside_43 : decode cX5_rowsInside 43 = .ok (.ifCond .eq 15, 3) := by decide +kernel
theorem dX5_rowsInside_46 : decode cX5_rowsInside 46 = .ok (.iload 5, 2) := by decide +kernel
theorem dX5_rowsInside_48 : decode cX5_rowsInside 48 = .ok (.aload_n 0, 1) := by decide +kernel
theorem dX5_rowsInside_49 : decode cX5_rowsInside 49 = .ok (.getfield 18, 3) := by decide +kernel
theorem dX5_rowsInside_52 : decode cX5_rowsInside 52 = .ok (.iload 6, 2) := by decide +kernel
theorem dX5_rowsInside_54 : decode cX5_rowsInside 54 = .ok (.iaload, 1) := by decide +kernel
theorem dX5_rowsInside_55 : decode cX5_rowsInside 55 = .ok (.iadd, 1) := by decide +kernel
theorem dX5_rowsInside_56 : decode cX5_rowsInside 56 = .ok (.istore 5, 2) := by decide +kernel
theorem dX5_rowsInside_58 : decode cX5_rowsInside 58 = .ok (.iinc 6 1, 3) := by decide +kernel
theorem dX5_rowsInside_61 : decode cX5_rowsInside 61 = .ok (.goto (-55), 3) := by decide +kernel
theorem dX5_rowsInside_64 : decode cX5_rowsInside 64 = .ok (.iload 5, 2) := by decide +kernel
theorem dX5_rowsInside_66 : decode cX5_rowsInside 66 = .ok (.ireturn, 1) := by decide +kernel
theorem dX5_copyFrom_0 : decode cX5_copyFrom 0 = .ok (.aload_n 1, 1) := by decide +kernel
theorem dX5_copyFrom_1 : decode cX5_copyFrom 1 = .ok (.getfield 9, 3) := by decide +kernel
theorem dX5_copyFrom_4 : decode cX5_copyFrom 4 = .ok (.aload_n 0, 1) := by decide +kernel
theorem dX5_copyFrom_5 : decode cX5_copyFrom 5 = .ok (.getfield 9, 3) := by decide +kernel
theorem dX5_copyFrom_8 : decode cX5_copyFrom 8 = .ok (.invokestatic 47, 3) := by decide +kernel
theorem dX5_copyFrom_11 : decode cX5_copyFrom 11 = .ok (.aload_n 1, 1) := by decide +kernel
theorem dX5_copyFrom_12 : decode cX5_copyFrom 12 = .ok (.getfield 15, 3) := by decide +kernel
theorem dX5_copyFrom_15 : decode cX5_copyFrom 15 = .ok (.aload_n 0, 1) := by decide +kernel
theorem dX5_copyFrom_16 : decode cX5_copyFrom 16 = .ok (.getfield 15, 3) := by decide +kernel
theorem dX5_copyFrom_19 : decode cX5_copyFrom 19 = .ok (.invokestatic 47, 3) := by decide +kernel
theorem dX5_copyFrom_22 : decode cX5_copyFrom 22 = .ok (.aload_n 1, 1) := by decide +kernel
theorem dX5_copyFrom_23 : decode cX5_copyFrom 23 = .ok (.getfield 18, 3) := by decide +kernel
theorem dX5_copyFrom_26 : decode cX5_copyFrom 26 = .ok (.aload_n 0, 1) := by decide +kernel
theorem dX5_copyFrom_27 : decode cX5_copyFrom 27 = .ok (.getfield 18, 3) := by decide +kernel
theorem dX5_copyFrom_30 : decode cX5_copyFrom 30 = .ok (.invokestatic 47, 3) := by decide +kernel
theorem dX5_copyFrom_33 : decode cX5_copyFrom 33 = .ok (.aload_n 0, 1) := by decide +kernel
theorem dX5_copyFrom_34 : decode cX5_copyFrom 34 = .ok (.aload_n 1, 1) := by decide +kernel
theorem dX5_copyFrom_35 : decode cX5_copyFrom 35 = .ok (.getfield 21, 3) := by decide +kernel
theorem dX5_copyFrom_38 : decode cX5_copyFrom 38 = .ok (.putfield 21, 3) := by decide +kernel
theorem dX5_copyFrom_41 : decode cX5_copyFrom 41 = .ok (.return_, 1) := by decide +kernel
theorem dX6_init_0 : decode cX6_init 0 = .ok (.aload_n 0, 1) := by decide +kernel
theorem dX6_init_1 : decode cX6_init 1 = .ok (.invokespecial 3, 3) := by decide +kernel
theorem dX6_init_4 : decode cX6_init 4 = .ok (.aload_n 0, 1) := by decide +kernel
theorem dX6_init_5 : decode cX6_init 5 = .ok (.aload_n 1, 1) := by decide +kernel
theorem dX6_init_6 : decode cX6_init 6 = .ok (.putfield 9, 3) := by decide +kernel
theorem dX6_init_9 : decode cX6_init 9 = .ok (.return_, 1) := by decide +kernel
theorem dX7_init_0 : decode cX7_init 0 = .ok (.aload_n 0, 1) := by decide +kernel
theorem dX7_init_1 : decode cX7_init 1 = .ok (.invokespecial 3, 3) := by decide +kernel
theorem dX7_init_4 : decode cX7_init 4 = .ok (.aload_n 0, 1) := by decide +kernel
theorem dX7_init_5 : decode cX7_init 5 = .ok (.iconst 4, 1) := by decide +kernel
theorem dX7_init_6 : decode cX7_init 6 = .ok (.newarray .int, 2) := by decide +kernel
theorem dX7_init_8 : decode cX7_init 8 = .ok (.dup, 1) := by decide +kernel
theorem dX7_init_9 : decode cX7_init 9 = .ok (.iconst 0, 1) := by decide +kernel
theorem dX7_init_10 : decode cX7_init 10 = .ok (.iconst 4, 1) := by decide +kernel
theorem dX7_init_11 : decode cX7_init 11 = .ok (.iastore, 1) := by decide +kernel
theorem dX7_init_12 : decode cX7_init 12 = .ok (.dup, 1) := by decide +kernel
theorem dX7_init_13 : decode cX7_init 13 = .ok (.iconst 1, 1) := by decide +kernel
theorem dX7_init_14 : decode cX7_init 14 = .ok (.iconst 2, 1) := by decide +kernel
theorem dX7_init_15 : decode cX7_init 15 = .ok (.iastore, 1) := by decide +kernel
theorem dX7_init_16 : decode cX7_init 16 = .ok (.dup, 1) := by decide +kernel
theorem dX7_init_17 : decode cX7_init 17 = .ok (.iconst 2, 1) := by decide +kernel
theorem dX7_init_18 : decode cX7_init 18 = .ok (.iconst 2, 1) := by decide +kernel
theorem dX7_init_19 : decode cX7_init 19 = .ok (.iastore, 1) := by decide +kernel
theorem dX7_init_20 : decode cX7_init 20 = .ok (.dup, 1) := by decide +kernel
theorem dX7_init_21 : decode cX7_init 21 = .ok (.iconst 3, 1) := by decide +kernel
theorem dX7_init_22 : decode cX7_init 22 = .ok (.bipush 20, 2) := by decide +kernel
theorem dX7_init_24 : decode cX7_init 24 = .ok (.iastore, 1) := by decide +kernel
theorem dX7_init_25 : decode cX7_init 25 = .ok (.putfield 9, 3) := by decide +kernel
theorem dX7_init_28 : decode cX7_init 28 = .ok (.aload_n 0, 1) := by decide +kernel
theorem dX7_init_29 : decode cX7_init 29 = .ok (.new 15, 3) := by decide +kernel
theorem dX7_init_32 : decode cX7_init 32 = .ok (.dup, 1) := by decide +kernel
theorem dX7_init_33 : decode cX7_init 33 = .ok (.invokespecial 17, 3) := by decide +kernel
theorem dX7_init_36 : decode cX7_init 36 = .ok (.putfield 18, 3) := by decide +kernel
theorem dX7_init_39 : decode cX7_init 39 = .ok (.aload_n 0, 1) := by decide +kernel
theorem dX7_init_40 : decode cX7_init 40 = .ok (.new 22, 3) := by decide +kernel
theorem dX7_init_43 : decode cX7_init 43 = .ok (.dup, 1) := by decide +kernel
theorem dX7_init_44 : decode cX7_init 44 = .ok (.invokespecial 24, 3) := by decide +kernel
theorem dX7_init_47 : decode cX7_init 47 = .ok (.putfield 25, 3) := by decide +kernel
theorem dX7_init_50 : decode cX7_init 50 = .ok (.return_, 1) := by decide +kernel
theorem dX7_setting_0 : decode cX7_setting 0 = .ok (.iload_n 1, 1) := by decide +kernel
theorem dX7_setting_1 : decode cX7_setting 1 = .ok (.iconst 0, 1) := by decide +kernel
theorem dX7_setting_2 : decode cX7_setting 2 = .ok (.iconst 3, 1) := by decide +kernel
theorem dX7_setting_3 : decode cX7_setting 3 = .ok (.invokestatic 29, 3) := by decide +kernel
theorem dX7_setting_6 : decode cX7_setting 6 = .ok (.ifCond .eq 12, 3) := by decide +kernel
theorem dX7_setting_9 : decode cX7_setting 9 = .ok (.aload_n 0, 1) := by decide +kernel
theorem dX7_setting_10 : decode cX7_setting 10 = .ok (.getfield 9, 3) := by decide +kernel
theorem dX7_setting_13 : decode cX7_setting 13 = .ok (.iload_n 1, 1) := by decide +kernel
theorem dX7_setting_14 : decode cX7_setting 14 = .ok (.iaload, 1) := by decide +kernel
theorem dX7_setting_15 : decode cX7_setting 15 = .ok (.goto 4, 3) := by decide +kernel
theorem dX7_setting_18 : decode cX7_setting 18 = .ok (.iconst 0, 1) := by decide +kernel
theorem dX7_setting_19 : decode cX7_setting 19 = .ok (.ireturn, 1) := by decide +kernel
theorem dX7_change_0 : decode cX7_change 0 = .ok (.iload_n 1, 1) := by decide +kernel
theorem dX7_change_1 : decode cX7_change 1 = .ok (.iconst 0, 1) := by decide +kernel
theorem dX7_change_2 : decode cX7_change 2 = .ok (.iconst 3, 1) := by decide +kernel
theorem dX7_change_3 : decode cX7_change 3 = .ok (.invokestatic 29, 3) := by decide +kernel
theorem dX7_change_6 : decode cX7_change 6 = .ok (.ifCond .eq 11, 3) := by decide +kernel
theorem dX7_change_9 : decode cX7_change 9 = .ok (.iload_n 1, 1) := by decide +kernel
theorem dX7_change_10 : decode cX7_change 10 = .ok (.iload_n 2, 1) := by decide +kernel
theorem dX7_change_11 : decode cX7_change 11 = .ok (.invokestatic 33, 3) := by decide +kernel
theorem dX7_change_14 : decode cX7_change 14 = .ok (.ifCond .ne 6, 3) := by decide +kernel
theorem dX7_change_17 : decode cX7_change 17 = .ok (.bipush (-2), 2) := by decide +kernel
theorem dX7_change_19 : decode cX7_change 19 = .ok (.ireturn, 1) := by decide +kernel
theorem dX7_change_20 : decode cX7_change 20 = .ok (.aload_n 0, 1) := by decide +kernel
theorem dX7_change_21 : decode cX7_change 21 = .ok (.getfield 9, 3) := by decide +kernel
theorem dX7_change_24 : decode cX7_change 24 = .ok (.iload_n 1, 1) := by decide +kernel
theorem dX7_change_25 : decode cX7_change 25 = .ok (.iaload, 1) := by decide +kernel
theorem dX7_change_26 : decode cX7_change 26 = .ok (.istore_n 3, 1) := by decide +kernel
theorem dX7_change_27 : decode cX7_change 27 = .ok (.aload_n 0, 1) := by decide +kernel
theorem dX7_change_28 : decode cX7_change 28 = .ok (.getfield 9, 3) := by decide +kernel
theorem dX7_change_31 : decode cX7_change 31 = .ok (.iload_n 1, 1) := by decide +kernel
theorem dX7_change_32 : decode cX7_change 32 = .ok (.iload_n 2, 1) := by decide +kernel
theorem dX7_change_33 : decode cX7_change 33 = .ok (.iastore, 1) := by decide +kernel
theorem dX7_change_34 : decode cX7_change 34 = .ok (.iload_n 3, 1) := by decide +kernel
theorem dX7_change_35 : decode cX7_change 35 = .ok (.ireturn, 1) := by decide +kernel
theorem dX7_isInRange_0 : decode cX7_isInRange 0 = .ok (.iload_n 0, 1) := by decide +kernel
theorem dX7_isInRange_1 : decode cX7_isInRange 1 = .ok (.tableswitch 63 0 3 #[31, 39, 47, 55], 31) := by decide +kernel
theorem dX7_isInRange_32 : decode cX7_isInRange 32 = .ok (.iload_n 1, 1) := by decide +kernel
theorem dX7_isInRange_33 : decode cX7_isInRange 33 = .ok (.iconst 1, 1) := by decide +kernel
theorem dX7_isInRange_34 : decode cX7_isInRange 34 = .ok (.bipush 10, 2) := by decide +kernel
theorem dX7_isInRange_36 : decode cX7_isInRange 36 = .ok (.invokestatic 29, 3) := by decide +kernel
theorem dX7_isInRange_39 : decode cX7_isInRange 39 = .ok (.ireturn, 1) := by decide +kernel
theorem dX7_isInRange_40 : decode cX7_isInRange 40 = .ok (.iload_n 1, 1) := by decide +kernel
theorem dX7_isInRange_41 : decode cX7_isInRange 41 = .ok (.iconst 0, 1) := by decide +kernel
theorem dX7_isInRange_42 : decode cX7_isInRange 42 = .ok (.bipush 6, 2) := by decide +kernel
theorem dX7_isInRange_44 : decode cX7_isInRange 44 = .ok (.invokestatic 29, 3) := by decide +kernel
theorem dX7_isInRange_47 : decode cX7_isInRange 47 = .ok (.ireturn, 1) := by decide +kernel
theorem dX7_isInRange_48 : decode cX7_isInRange 48 = .ok (.iload_n 1, 1) := by decide +kernel
theorem dX7_isInRange_49 : decode cX7_isInRange 49 = .ok (.iconst 0, 1) := by decide +kernel
theorem dX7_isInRange_50 : decode cX7_isInRange 50 = .ok (.bipush 6, 2) := by decide +kernel
theorem dX7_isInRange_52 : decode cX7_isInRange 52 = .ok (.invokestatic 29, 3) := by decide +kernel
theorem dX7_isInRange_55 : decode cX7_isInRange 55 = .ok (.ireturn, 1) := by decide +kernel
theorem dX7_isInRange_56 : decode cX7_isInRange 56 = .ok (.iload_n 1, 1) := by decide +kernel
theorem dX7_isInRange_57 : decode cX7_isInRange 57 = .ok (.iconst 0, 1) := by decide +kernel
theorem dX7_isInRange_58 : decode cX7_isInRange 58 = .ok (.bipush 100, 2) := by decide +kernel
theorem dX7_isInRange_60 : decode cX7_isInRange 60 = .ok (.invokestatic 29, 3) := by decide +kernel
theorem dX7_isInRange_63 : decode cX7_isInRange 63 = .ok (.ireturn, 1) := by decide +kernel
theorem dX7_isInRange_64 : decode cX7_isInRange 64 = .ok (.iconst 0, 1) := by decide +kernel
theorem dX7_isInRange_65 : decode cX7_isInRange 65 = .ok (.ireturn, 1) := by decide +kernel
theorem dX7_addRow_0 : decode cX7_addRow 0 = .ok (.iload_n 1, 1) := by decide +kernel
theorem dX7_addRow_1 : decode cX7_addRow 1 = .ok (.invokestatic 37, 3) := by decide +kernel
theorem dX7_addRow_4 : decode cX7_addRow 4 = .ok (.ifCond .eq 10, 3) := by decide +kernel
theorem dX7_addRow_7 : decode cX7_addRow 7 = .ok (.iload_n 2, 1) := by decide +kernel
theorem dX7_addRow_8 : decode cX7_addRow 8 = .ok (.invokestatic 37, 3) := by decide +kernel
theorem dX7_addRow_11 : decode cX7_addRow 11 = .ok (.ifCond .ne 6, 3) := by decide +kernel
theorem dX7_addRow_14 : decode cX7_addRow 14 = .ok (.bipush (-2), 2) := by decide +kernel
theorem dX7_addRow_16 : decode cX7_addRow 16 = .ok (.ireturn, 1) := by decide +kernel
theorem dX7_addRow_17 : decode cX7_addRow 17 = .ok (.aload_n 0, 1) := by decide +kernel
theorem dX7_addRow_18 : decode cX7_addRow 18 = .ok (.getfield 18, 3) := by decide +kernel
theorem dX7_addRow_21 : decode cX7_addRow 21 = .ok (.invokevirtual 41, 3) := by decide +kernel
theorem dX7_addRow_24 : decode cX7_addRow 24 = .ok (.ifCond .eq 6, 3) := by decide +kernel
theorem dX7_addRow_27 : decode cX7_addRow 27 = .ok (.bipush (-4), 2) := by decide +kernel
theorem dX7_addRow_29 : decode cX7_addRow 29 = .ok (.ireturn, 1) := by decide +kernel
theorem dX7_addRow_30 : decode cX7_addRow 30 = .ok (.aload_n 0, 1) := by decide +kernel
theorem dX7_addRow_31 : decode cX7_addRow 31 = .ok (.getfield 18, 3) := by decide +kernel
theorem dX7_addRow_34 : decode cX7_addRow 34 = .ok (.iload_n 1, 1) := by decide +kernel
theorem dX7_addRow_35 : decode cX7_addRow 35 = .ok (.iload_n 2, 1) := by decide +kernel
theorem dX7_addRow_36 : decode cX7_addRow 36 = .ok (.invokevirtual 45, 3) := by decide +kernel
theorem dX7_addRow_39 : decode cX7_addRow 39 = .ok (.aload_n 0, 1) := by decide +kernel
theorem dX7_addRow_40 : decode cX7_addRow 40 = .ok (.getfield 25, 3) := by decide +kernel
theorem dX7_addRow_43 : decode cX7_addRow 43 = .ok (.invokevirtual 49, 3) := by decide +kernel
theorem dX7_addRow_46 : decode cX7_addRow 46 = .ok (.aload_n 0, 1) := by decide +kernel
theorem dX7_addRow_47 : decode cX7_addRow 47 = .ok (.getfield 18, 3) := by decide +kernel
theorem dX7_addRow_50 : decode cX7_addRow 50 = .ok (.getfield 52, 3) := by decide +kernel
theorem dX7_addRow_53 : decode cX7_addRow 53 = .ok (.iconst 1, 1) := by decide +kernel
theorem dX7_addRow_54 : decode cX7_addRow 54 = .ok (.isub, 1) := by decide +kernel
theorem dX7_addRow_55 : decode cX7_addRow 55 = .ok (.ireturn, 1) := by decide +kernel
theorem dX7_dropRow_0 : decode cX7_dropRow 0 = .ok (.aload_n 0, 1) := by decide +kernel
theorem dX7_dropRow_1 : decode cX7_dropRow 1 = .ok (.getfield 18, 3) := by decide +kernel
theorem dX7_dropRow_4 : decode cX7_dropRow 4 = .ok (.iload_n 1, 1) := by decide +kernel
theorem dX7_dropRow_5 : decode cX7_dropRow 5 = .ok (.invokevirtual 60, 3) := by decide +kernel
theorem dX7_dropRow_8 : decode cX7_dropRow 8 = .ok (.ifCond .ne 5, 3) := by decide +kernel
theorem dX7_dropRow_11 : decode cX7_dropRow 11 = .ok (.iconst (-1), 1) := by decide +kernel
theorem dX7_dropRow_12 : decode cX7_dropRow 12 = .ok (.ireturn, 1) := by decide +kernel
theorem dX7_dropRow_13 : decode cX7_dropRow 13 = .ok (.aload_n 0, 1) := by decide +kernel
theorem dX7_dropRow_14 : decode cX7_dropRow 14 = .ok (.getfield 18, 3) := by decide +kernel
theorem dX7_dropRow_17 : decode cX7_dropRow 17 = .ok (.iload_n 1, 1) := by decide +kernel
theorem dX7_dropRow_18 : decode cX7_dropRow 18 = .ok (.invokevirtual 63, 3) := by decide +kernel
theorem dX7_dropRow_21 : decode cX7_dropRow 21 = .ok (.aload_n 0, 1) := by decide +kernel
theorem dX7_dropRow_22 : decode cX7_dropRow 22 = .ok (.getfield 25, 3) := by decide +kernel
theorem dX7_dropRow_25 : decode cX7_dropRow 25 = .ok (.invokevirtual 49, 3) := by decide +kernel
theorem dX7_dropRow_28 : decode cX7_dropRow 28 = .ok (.aload_n 0, 1) := by decide +kernel
theorem dX7_dropRow_29 : decode cX7_dropRow 29 = .ok (.getfield 18, 3) := by decide +kernel
theorem dX7_dropRow_32 : decode cX7_dropRow 32 = .ok (.getfield 52, 3) := by decide +kernel
theorem dX7_dropRow_35 : decode cX7_dropRow 35 = .ok (.ireturn, 1) := by decide +kernel
theorem dX7_makeAnalysis_0 : decode cX7_makeAnalysis 0 = .ok (.aload_n 0, 1) := by decide +kernel
theorem dX7_makeAnalysis_1 : decode cX7_makeAnalysis 1 = .ok (.getfield 18, 3) := by decide +kernel
theorem dX7_makeAnalysis_4 : decode cX7_makeAnalysis 4 = .ok (.getfield 52, 3) := by decide +kernel
theorem dX7_makeAnalysis_7 : decode cX7_makeAnalysis 7 = .ok (.ifCond .ne 6, 3) := by decide +kernel
theorem dX7_makeAnalysis_10 : decode cX7_makeAnalysis 10 = .ok (.bipush (-5), 2) := by decide +kernel
theorem dX7_makeAnalysis_12 : decode cX7_makeAnalysis 12 = .ok (.ireturn, 1) := by decide +kernel
theorem dX7_makeAnalysis_13 : decode cX7_makeAnalysis 13 = .ok (.aload_n 0, 1) := by decide +kernel
theorem dX7_makeAnalysis_14 : decode cX7_makeAnalysis 14 = .ok (.getfield 25, 3) := by decide +kernel
theorem dX7_makeAnalysis_17 : decode cX7_makeAnalysis 17 = .ok (.aload_n 0, 1) := by decide +kernel
theorem dX7_makeAnalysis_18 : decode cX7_makeAnalysis 18 = .ok (.getfield 18, 3) := by decide +kernel
theorem dX7_makeAnalysis_21 : decode cX7_makeAnalysis 21 = .ok (.aload_n 0, 1) := by decide +kernel
theorem dX7_makeAnalysis_22 : decode cX7_makeAnalysis 22 = .ok (.iconst 0, 1) := by decide +kernel
theorem dX7_makeAnalysis_23 : decode cX7_makeAnalysis 23 = .ok (.invokevirtual 67, 3) := by decide +kernel
theorem dX7_makeAnalysis_26 : decode cX7_makeAnalysis 26 = .ok (.aload_n 0, 1) := by decide +kernel
theorem dX7_makeAnalysis_27 : decode cX7_makeAnalysis 27 = .ok (.iconst 1, 1) := by decide +kernel
theorem dX7_makeAnalysis_28 : decode cX7_makeAnalysis 28 = .ok (.invokevirtual 67, 3) := by decide +kernel
theorem dX7_makeAnalysis_31 : decode cX7_makeAnalysis 31 = .ok (.aload_n 0, 1) := by decide +kernel
theorem dX7_makeAnalysis_32 : decode cX7_makeAnalysis 32 = .ok (.iconst 2, 1) := by decide +kernel
theorem dX7_makeAnalysis_33 : decode cX7_makeAnalysis 33 = .ok (.invokevirtual 67, 3) := by decide +kernel
theorem dX7_makeAnalysis_36 : decode cX7_makeAnalysis 36 = .ok (.invokevirtual 71, 3) := by decide +kernel
theorem dX7_makeAnalysis_39 : decode cX7_makeAnalysis 39 = .ok (.aload_n 0, 1) := by decide +kernel
theorem dX7_makeAnalysis_40 : decode cX7_makeAnalysis 40 = .ok (.getfield 25, 3) := by decide +kernel
theorem dX7_makeAnalysis_43 : decode cX7_makeAnalysis 43 = .ok (.getfield 75, 3) := by decide +kernel
theorem dX7_makeAnalysis_46 : decode cX7_makeAnalysis 46 = .ok (.ireturn, 1) := by decide +kernel
theorem dX7_scale_0 : decode cX7_scale 0 = .ok (.aload_n 0, 1) := by decide +kernel
theorem dX7_scale_1 : decode cX7_scale 1 = .ok (.getfield 25, 3) := by decide +kernel
theorem dX7_scale_4 : decode cX7_scale 4 = .ok (.getfield 75, 3) := by decide +kernel
theorem dX7_scale_7 : decode cX7_scale 7 = .ok (.ifCond .le 23, 3) := by decide +kernel
theorem dX7_scale_10 : decode cX7_scale 10 = .ok (.iload_n 1, 1) := by decide +kernel
theorem dX7_scale_11 : decode cX7_scale 11 = .ok (.aload_n 0, 1) := by decide +kernel
theorem dX7_scale_12 : decode cX7_scale 12 = .ok (.getfield 18, 3) := by decide +kernel
theorem dX7_scale_15 : decode cX7_scale 15 = .ok (.getfield 52, 3) := by decide +kernel
theorem dX7_scale_18 : decode cX7_scale 18 = .ok (.imul, 1) := by decide +kernel
theorem dX7_scale_19 : decode cX7_scale 19 = .ok (.aload_n 0, 1) := by decide +kernel
theorem dX7_scale_20 : decode cX7_scale 20 = .ok (.getfield 25, 3) := by decide +kernel
theorem dX7_scale_23 : decode cX7_scale 23 = .ok (.getfield 75, 3) := by decide +kernel
theorem dX7_scale_26 : decode cX7_scale 26 = .ok (.idiv, 1) := by decide +kernel
theorem dX7_scale_27 : decode cX7_scale 27 = .ok (.goto 4, 3) := by decide +kernel
theorem dX7_scale_30 : decode cX7_scale 30 = .ok (.iconst 0, 1) := by decide +kernel
theorem dX7_scale_31 : decode cX7_scale 31 = .ok (.ireturn, 1) := by decide +kernel
theorem dX7_copyFrom_0 : decode cX7_copyFrom 0 = .ok (.aload_n 1, 1) := by decide +kernel
theorem dX7_copyFrom_1 : decode cX7_copyFrom 1 = .ok (.getfield 9, 3) := by decide +kernel
theorem dX7_copyFrom_4 : decode cX7_copyFrom 4 = .ok (.aload_n 0, 1) := by decide +kernel
theorem dX7_copyFrom_5 : decode cX7_copyFrom 5 = .ok (.getfield 9, 3) := by decide +kernel
theorem dX7_copyFrom_8 : decode cX7_copyFrom 8 = .ok (.invokestatic 78, 3) := by decide +kernel
theorem dX7_copyFrom_11 : decode cX7_copyFrom 11 = .ok (.aload_n 0, 1) := by decide +kernel
theorem dX7_copyFrom_12 : decode cX7_copyFrom 12 = .ok (.getfield 18, 3) := by decide +kernel
theorem dX7_copyFrom_15 : decode cX7_copyFrom 15 = .ok (.aload_n 1, 1) := by decide +kernel
theorem dX7_copyFrom_16 : decode cX7_copyFrom 16 = .ok (.getfield 18, 3) := by decide +kernel
theorem dX7_copyFrom_19 : decode cX7_copyFrom 19 = .ok (.invokevirtual 82, 3) := by decide +kernel
theorem dX7_copyFrom_22 : decode cX7_copyFrom 22 = .ok (.aload_n 0, 1) := by decide +kernel
theorem dX7_copyFrom_23 : decode cX7_copyFrom 23 = .ok (.getfield 25, 3) := by decide +kernel
theorem dX7_copyFrom_26 : decode cX7_copyFrom 26 = .ok (.aload_n 1, 1) := by decide +kernel
theorem dX7_copyFrom_27 : decode cX7_copyFrom 27 = .ok (.getfield 25, 3) := by decide +kernel
theorem dX7_copyFrom_30 : decode cX7_copyFrom 30 = .ok (.invokevirtual 86, 3) := by decide +kernel
theorem dX7_copyFrom_33 : decode cX7_copyFrom 33 = .ok (.return_, 1) := by decide +kernel
theorem dX8_init_0 : decode cX8_init 0 = .ok (.aload_n 0, 1) := by decide +kernel
theorem dX8_init_1 : decode cX8_init 1 = .ok (.invokespecial 3, 3) := by decide +kernel
theorem dX8_init_4 : decode cX8_init 4 = .ok (.aload_n 0, 1) := by decide +kernel
theorem dX8_init_5 : decode cX8_init 5 = .ok (.bipush 60, 2) := by decide +kernel
theorem dX8_init_7 : decode cX8_init 7 = .ok (.newarray .int, 2) := by decide +kernel
theorem dX8_init_9 : decode cX8_init 9 = .ok (.putfield 9, 3) := by decide +kernel
theorem dX8_init_12 : decode cX8_init 12 = .ok (.aload_n 0, 1) := by decide +kernel
theorem dX8_init_13 : decode cX8_init 13 = .ok (.bipush 60, 2) := by decide +kernel
theorem dX8_init_15 : decode cX8_init 15 = .ok (.newarray .int, 2) := by decide +kernel
theorem dX8_init_17 : decode cX8_init 17 = .ok (.putfield 15, 3) := by decide +kernel
theorem dX8_init_20 : decode cX8_init 20 = .ok (.return_, 1) := by decide +kernel
theorem dX8_isFull_0 : decode cX8_isFull 0 = .ok (.aload_n 0, 1) := by decide +kernel
theorem dX8_isFull_1 : decode cX8_isFull 1 = .ok (.getfield 18, 3) := by decide +kernel
theorem dX8_isFull_4 : decode cX8_isFull 4 = .ok (.bipush 60, 2) := by decide +kernel
theorem dX8_isFull_6 : decode cX8_isFull 6 = .ok (.if_icmp .lt 7, 3) := by decide +kernel
theorem dX8_isFull_9 : decode cX8_isFull 9 = .ok (.iconst 1, 1) := by decide +kernel
theorem dX8_isFull_10 : decode cX8_isFull 10 = .ok (.goto 4, 3) := by decide +kernel
theorem dX8_isFull_13 : decode cX8_isFull 13 = .ok (.iconst 0, 1) := by decide +kernel
theorem dX8_isFull_14 : decode cX8_isFull 14 = .ok (.ireturn, 1) := by decide +kernel
theorem dX8_hasRow_0 : decode cX8_hasRow 0 = .ok (.iload_n 1, 1) := by decide +kernel
theorem dX8_hasRow_1 : decode cX8_hasRow 1 = .ok (.ifCond .lt 15, 3) := by decide +kernel
theorem dX8_hasRow_4 : decode cX8_hasRow 4 = .ok (.iload_n 1, 1) := by decide +kernel
theorem dX8_hasRow_5 : decode cX8_hasRow 5 = .ok (.aload_n 0, 1) := by decide +kernel
theorem dX8_hasRow_6 : decode cX8_hasRow 6 = .ok (.getfield 18, 3) := by decide +kernel
theorem dX8_hasRow_9 : decode cX8_hasRow 9 = .ok (.if_icmp .ge 7, 3) := by decide +kernel

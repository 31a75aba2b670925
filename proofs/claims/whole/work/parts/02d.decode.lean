theorem dX10_isRow_2 : decode cX10_isRow 2 = .ok (.aload_n 0, 1) := by decide +kernel
theorem dX10_isRow_3 : decode cX10_isRow 3 = .ok (.getfield 7, 3) := by decide +kernel
theorem dX10_isRow_6 : decode cX10_isRow 6 = .ok (.iconst 0, 1) := by decide +kernel
theorem dX10_isRow_7 : decode cX10_isRow 7 = .ok (.iaload, 1) := by decide +kernel
theorem dX10_isRow_8 : decode cX10_isRow 8 = .ok (.iconst 1, 1) := by decide +kernel
theorem dX10_isRow_9 : decode cX10_isRow 9 = .ok (.isub, 1) := by decide +kernel
theorem dX10_isRow_10 : decode cX10_isRow 10 = .ok (.invokestatic 35, 3) := by decide +kernel
theorem dX10_isRow_13 : decode cX10_isRow 13 = .ok (.ireturn, 1) := by decide +kernel
theorem dX10_goes_0 : decode cX10_goes 0 = .ok (.aload_n 0, 1) := by decide +kernel
theorem dX10_goes_1 : decode cX10_goes 1 = .ok (.getfield 7, 3) := by decide +kernel
theorem dX10_goes_4 : decode cX10_goes 4 = .ok (.iconst 0, 1) := by decide +kernel
theorem dX10_goes_5 : decode cX10_goes 5 = .ok (.dup2, 1) := by decide +kernel
theorem dX10_goes_6 : decode cX10_goes 6 = .ok (.iaload, 1) := by decide +kernel
theorem dX10_goes_7 : decode cX10_goes 7 = .ok (.iconst 1, 1) := by decide +kernel
theorem dX10_goes_8 : decode cX10_goes 8 = .ok (.isub, 1) := by decide +kernel
theorem dX10_goes_9 : decode cX10_goes 9 = .ok (.iastore, 1) := by decide +kernel
theorem dX10_goes_10 : decode cX10_goes 10 = .ok (.bipush 8, 2) := by decide +kernel
theorem dX10_goes_12 : decode cX10_goes 12 = .ok (.iconst 2, 1) := by decide +kernel
theorem dX10_goes_13 : decode cX10_goes 13 = .ok (.iload_n 1, 1) := by decide +kernel
theorem dX10_goes_14 : decode cX10_goes 14 = .ok (.imul, 1) := by decide +kernel
theorem dX10_goes_15 : decode cX10_goes 15 = .ok (.iadd, 1) := by decide +kernel
theorem dX10_goes_16 : decode cX10_goes 16 = .ok (.istore_n 2, 1) := by decide +kernel
theorem dX10_goes_17 : decode cX10_goes 17 = .ok (.iload_n 2, 1) := by decide +kernel
theorem dX10_goes_18 : decode cX10_goes 18 = .ok (.bipush 8, 2) := by decide +kernel
theorem dX10_goes_20 : decode cX10_goes 20 = .ok (.iconst 2, 1) := by decide +kernel
theorem dX10_goes_21 : decode cX10_goes 21 = .ok (.aload_n 0, 1) := by decide +kernel
theorem dX10_goes_22 : decode cX10_goes 22 = .ok (.getfield 7, 3) := by decide +kernel
theorem dX10_goes_25 : decode cX10_goes 25 = .ok (.iconst 0, 1) := by decide +kernel
theorem dX10_goes_26 : decode cX10_goes 26 = .ok (.iaload, 1) := by decide +kernel
theorem dX10_goes_27 : decode cX10_goes 27 = .ok (.imul, 1) := by decide +kernel
theorem dX10_goes_28 : decode cX10_goes 28 = .ok (.iadd, 1) := by decide +kernel
theorem dX10_goes_29 : decode cX10_goes 29 = .ok (.if_icmp .ge 23, 3) := by decide +kernel
theorem dX10_goes_32 : decode cX10_goes 32 = .ok (.aload_n 0, 1) := by decide +kernel
theorem dX10_goes_33 : decode cX10_goes 33 = .ok (.getfield 7, 3) := by decide +kernel
theorem dX10_goes_36 : decode cX10_goes 36 = .ok (.iload_n 2, 1) := by decide +kernel
theorem dX10_goes_37 : decode cX10_goes 37 = .ok (.aload_n 0, 1) := by decide +kernel
theorem dX10_goes_38 : decode cX10_goes 38 = .ok (.getfield 7, 3) := by decide +kernel
theorem dX10_goes_41 : decode cX10_goes 41 = .ok (.iload_n 2, 1) := by decide +kernel
theorem dX10_goes_42 : decode cX10_goes 42 = .ok (.iconst 2, 1) := by decide +kernel
theorem dX10_goes_43 : decode cX10_goes 43 = .ok (.iadd, 1) := by decide +kernel
theorem dX10_goes_44 : decode cX10_goes 44 = .ok (.iaload, 1) := by decide +kernel
theorem dX10_goes_45 : decode cX10_goes 45 = .ok (.iastore, 1) := by decide +kernel
theorem dX10_goes_46 : decode cX10_goes 46 = .ok (.iinc 2 1, 3) := by decide +kernel
theorem dX10_goes_49 : decode cX10_goes 49 = .ok (.goto (-32), 3) := by decide +kernel
theorem dX10_goes_52 : decode cX10_goes 52 = .ok (.aload_n 0, 1) := by decide +kernel
theorem dX10_goes_53 : decode cX10_goes 53 = .ok (.getfield 7, 3) := by decide +kernel
theorem dX10_goes_56 : decode cX10_goes 56 = .ok (.iconst 3, 1) := by decide +kernel
theorem dX10_goes_57 : decode cX10_goes 57 = .ok (.dup2, 1) := by decide +kernel
theorem dX10_goes_58 : decode cX10_goes 58 = .ok (.iaload, 1) := by decide +kernel
theorem dX10_goes_59 : decode cX10_goes 59 = .ok (.aload_n 0, 1) := by decide +kernel
theorem dX10_goes_60 : decode cX10_goes 60 = .ok (.getfield 7, 3) := by decide +kernel
theorem dX10_goes_63 : decode cX10_goes 63 = .ok (.iconst 1, 1) := by decide +kernel
theorem dX10_goes_64 : decode cX10_goes 64 = .ok (.iaload, 1) := by decide +kernel
theorem dX10_goes_65 : decode cX10_goes 65 = .ok (.iadd, 1) := by decide +kernel
theorem dX10_goes_66 : decode cX10_goes 66 = .ok (.iastore, 1) := by decide +kernel
theorem dX10_goes_67 : decode cX10_goes 67 = .ok (.aload_n 0, 1) := by decide +kernel
theorem dX10_goes_68 : decode cX10_goes 68 = .ok (.getfield 7, 3) := by decide +kernel
theorem dX10_goes_71 : decode cX10_goes 71 = .ok (.iconst 0, 1) := by decide +kernel
theorem dX10_goes_72 : decode cX10_goes 72 = .ok (.iaload, 1) := by decide +kernel
theorem dX10_goes_73 : decode cX10_goes 73 = .ok (.ireturn, 1) := by decide +kernel
theorem dX10_remove_0 : decode cX10_remove 0 = .ok (.aload_n 0, 1) := by decide +kernel
theorem dX10_remove_1 : decode cX10_remove 1 = .ok (.iload_n 1, 1) := by decide +kernel
theorem dX10_remove_2 : decode cX10_remove 2 = .ok (.invokevirtual 142, 3) := by decide +kernel
theorem dX10_remove_5 : decode cX10_remove 5 = .ok (.ifCond .ne 5, 3) := by decide +kernel
theorem dX10_remove_8 : decode cX10_remove 8 = .ok (.iconst (-1), 1) := by decide +kernel
theorem dX10_remove_9 : decode cX10_remove 9 = .ok (.ireturn, 1) := by decide +kernel
theorem dX10_remove_10 : decode cX10_remove 10 = .ok (.aload_n 0, 1) := by decide +kernel
theorem dX10_remove_11 : decode cX10_remove 11 = .ok (.invokevirtual 47, 3) := by decide +kernel
theorem dX10_remove_14 : decode cX10_remove 14 = .ok (.aload_n 0, 1) := by decide +kernel
theorem dX10_remove_15 : decode cX10_remove 15 = .ok (.iload_n 1, 1) := by decide +kernel
theorem dX10_remove_16 : decode cX10_remove 16 = .ok (.invokevirtual 145, 3) := by decide +kernel
theorem dX10_remove_19 : decode cX10_remove 19 = .ok (.ireturn, 1) := by decide +kernel
theorem dX10_analyse_0 : decode cX10_analyse 0 = .ok (.aload_n 0, 1) := by decide +kernel
theorem dX10_analyse_1 : decode cX10_analyse 1 = .ok (.getfield 7, 3) := by decide +kernel
theorem dX10_analyse_4 : decode cX10_analyse 4 = .ok (.iconst 0, 1) := by decide +kernel
theorem dX10_analyse_5 : decode cX10_analyse 5 = .ok (.iaload, 1) := by decide +kernel
theorem dX10_analyse_6 : decode cX10_analyse 6 = .ok (.ifCond .ne 6, 3) := by decide +kernel
theorem dX10_analyse_9 : decode cX10_analyse 9 = .ok (.bipush (-5), 2) := by decide +kernel
theorem dX10_analyse_11 : decode cX10_analyse 11 = .ok (.ireturn, 1) := by decide +kernel
theorem dX10_analyse_12 : decode cX10_analyse 12 = .ok (.aload_n 0, 1) := by decide +kernel
theorem dX10_analyse_13 : decode cX10_analyse 13 = .ok (.invokevirtual 47, 3) := by decide +kernel
theorem dX10_analyse_16 : decode cX10_analyse 16 = .ok (.aload_n 0, 1) := by decide +kernel
theorem dX10_analyse_17 : decode cX10_analyse 17 = .ok (.aload_n 0, 1) := by decide +kernel
theorem dX10_analyse_18 : decode cX10_analyse 18 = .ok (.getfield 7, 3) := by decide +kernel
theorem dX10_analyse_21 : decode cX10_analyse 21 = .ok (.invokevirtual 126, 3) := by decide +kernel
theorem dX10_analyse_24 : decode cX10_analyse 24 = .ok (.aload_n 0, 1) := by decide +kernel
theorem dX10_analyse_25 : decode cX10_analyse 25 = .ok (.getfield 7, 3) := by decide +kernel
theorem dX10_analyse_28 : decode cX10_analyse 28 = .ok (.iconst 2, 1) := by decide +kernel
theorem dX10_analyse_29 : decode cX10_analyse 29 = .ok (.iaload, 1) := by decide +kernel
theorem dX10_analyse_30 : decode cX10_analyse 30 = .ok (.ireturn, 1) := by decide +kernel
theorem dX10_row_0 : decode cX10_row 0 = .ok (.aload_n 0, 1) := by decide +kernel
theorem dX10_row_1 : decode cX10_row 1 = .ok (.iload_n 1, 1) := by decide +kernel
theorem dX10_row_2 : decode cX10_row 2 = .ok (.invokevirtual 142, 3) := by decide +kernel
theorem dX10_row_5 : decode cX10_row 5 = .ok (.ifCond .ne 5, 3) := by decide +kernel
theorem dX10_row_8 : decode cX10_row 8 = .ok (.iconst (-1), 1) := by decide +kernel
theorem dX10_row_9 : decode cX10_row 9 = .ok (.ireturn, 1) := by decide +kernel
theorem dX10_row_10 : decode cX10_row 10 = .ok (.iload_n 2, 1) := by decide +kernel
theorem dX10_row_11 : decode cX10_row 11 = .ok (.invokestatic 79, 3) := by decide +kernel
theorem dX10_row_14 : decode cX10_row 14 = .ok (.ifCond .eq 15, 3) := by decide +kernel
theorem dX10_row_17 : decode cX10_row 17 = .ok (.aload_n 0, 1) := by decide +kernel
theorem dX10_row_18 : decode cX10_row 18 = .ok (.getfield 7, 3) := by decide +kernel
theorem dX10_row_21 : decode cX10_row 21 = .ok (.iload_n 1, 1) := by decide +kernel
theorem dX10_row_22 : decode cX10_row 22 = .ok (.iload_n 2, 1) := by decide +kernel
theorem dX10_row_23 : decode cX10_row 23 = .ok (.invokestatic 54, 3) := by decide +kernel
theorem dX10_row_26 : decode cX10_row 26 = .ok (.goto 5, 3) := by decide +kernel
theorem dX10_row_29 : decode cX10_row 29 = .ok (.bipush (-2), 2) := by decide +kernel
theorem dX10_row_31 : decode cX10_row 31 = .ok (.ireturn, 1) := by decide +kernel
theorem dX10_bucket_0 : decode cX10_bucket 0 = .ok (.iload_n 1, 1) := by decide +kernel
theorem dX10_bucket_1 : decode cX10_bucket 1 = .ok (.invokestatic 79, 3) := by decide +kernel
theorem dX10_bucket_4 : decode cX10_bucket 4 = .ok (.ifCond .eq 12, 3) := by decide +kernel
theorem dX10_bucket_7 : decode cX10_bucket 7 = .ok (.iload_n 3, 1) := by decide +kernel
theorem dX10_bucket_8 : decode cX10_bucket 8 = .ok (.iconst 0, 1) := by decide +kernel
theorem dX10_bucket_9 : decode cX10_bucket 9 = .ok (.iconst 3, 1) := by decide +kernel
theorem dX10_bucket_10 : decode cX10_bucket 10 = .ok (.invokestatic 35, 3) := by decide +kernel
theorem dX10_bucket_13 : decode cX10_bucket 13 = .ok (.ifCond .ne 6, 3) := by decide +kernel
theorem dX10_bucket_16 : decode cX10_bucket 16 = .ok (.bipush (-2), 2) := by decide +kernel
theorem dX10_bucket_18 : decode cX10_bucket 18 = .ok (.ireturn, 1) := by decide +kernel
theorem dX10_bucket_19 : decode cX10_bucket 19 = .ok (.iload_n 2, 1) := by decide +kernel
theorem dX10_bucket_20 : decode cX10_bucket 20 = .ok (.iconst 0, 1) := by decide +kernel
theorem dX10_bucket_21 : decode cX10_bucket 21 = .ok (.aload_n 0, 1) := by decide +kernel
theorem dX10_bucket_22 : decode cX10_bucket 22 = .ok (.getfield 7, 3) := by decide +kernel
theorem dX10_bucket_25 : decode cX10_bucket 25 = .ok (.sipush 128, 3) := by decide +kernel
theorem dX10_bucket_28 : decode cX10_bucket 28 = .ok (.iload_n 1, 1) := by decide +kernel
theorem dX10_bucket_29 : decode cX10_bucket 29 = .ok (.iadd, 1) := by decide +kernel
theorem dX10_bucket_30 : decode cX10_bucket 30 = .ok (.iaload, 1) := by decide +kernel
theorem dX10_bucket_31 : decode cX10_bucket 31 = .ok (.iconst 1, 1) := by decide +kernel
theorem dX10_bucket_32 : decode cX10_bucket 32 = .ok (.isub, 1) := by decide +kernel
theorem dX10_bucket_33 : decode cX10_bucket 33 = .ok (.invokestatic 35, 3) := by decide +kernel
theorem dX10_bucket_36 : decode cX10_bucket 36 = .ok (.ifCond .eq 25, 3) := by decide +kernel
theorem dX10_bucket_39 : decode cX10_bucket 39 = .ok (.aload_n 0, 1) := by decide +kernel
theorem dX10_bucket_40 : decode cX10_bucket 40 = .ok (.getfield 7, 3) := by decide +kernel
theorem dX10_bucket_43 : decode cX10_bucket 43 = .ok (.sipush 130, 3) := by decide +kernel
theorem dX10_bucket_46 : decode cX10_bucket 46 = .ok (.bipush 40, 2) := by decide +kernel
theorem dX10_bucket_48 : decode cX10_bucket 48 = .ok (.iload_n 1, 1) := by decide +kernel
theorem dX10_bucket_49 : decode cX10_bucket 49 = .ok (.imul, 1) := by decide +kernel
theorem dX10_bucket_50 : decode cX10_bucket 50 = .ok (.iadd, 1) := by decide +kernel
theorem dX10_bucket_51 : decode cX10_bucket 51 = .ok (.iconst 4, 1) := by decide +kernel
theorem dX10_bucket_52 : decode cX10_bucket 52 = .ok (.iload_n 2, 1) := by decide +kernel
theorem dX10_bucket_53 : decode cX10_bucket 53 = .ok (.imul, 1) := by decide +kernel
theorem dX10_bucket_54 : decode cX10_bucket 54 = .ok (.iadd, 1) := by decide +kernel
theorem dX10_bucket_55 : decode cX10_bucket 55 = .ok (.iload_n 3, 1) := by decide +kernel
theorem dX10_bucket_56 : decode cX10_bucket 56 = .ok (.iadd, 1) := by decide +kernel
theorem dX10_bucket_57 : decode cX10_bucket 57 = .ok (.iaload, 1) := by decide +kernel
theorem dX10_bucket_58 : decode cX10_bucket 58 = .ok (.goto 4, 3) := by decide +kernel
theorem dX10_bucket_61 : decode cX10_bucket 61 = .ok (.iconst (-1), 1) := by decide +kernel
theorem dX10_bucket_62 : decode cX10_bucket 62 = .ok (.ireturn, 1) := by decide +kernel
theorem dX10_common_0 : decode cX10_common 0 = .ok (.iload_n 1, 1) := by decide +kernel
theorem dX10_common_1 : decode cX10_common 1 = .ok (.invokestatic 79, 3) := by decide +kernel
theorem dX10_common_4 : decode cX10_common 4 = .ok (.ifCond .eq 12, 3) := by decide +kernel
theorem dX10_common_7 : decode cX10_common 7 = .ok (.iload_n 3, 1) := by decide +kernel
theorem dX10_common_8 : decode cX10_common 8 = .ok (.iconst 0, 1) := by decide +kernel
theorem dX10_common_9 : decode cX10_common 9 = .ok (.iconst 1, 1) := by decide +kernel
theorem dX10_common_10 : decode cX10_common 10 = .ok (.invokestatic 35, 3) := by decide +kernel
theorem dX10_common_13 : decode cX10_common 13 = .ok (.ifCond .ne 6, 3) := by decide +kernel
theorem dX10_common_16 : decode cX10_common 16 = .ok (.bipush (-2), 2) := by decide +kernel
theorem dX10_common_18 : decode cX10_common 18 = .ok (.ireturn, 1) := by decide +kernel
theorem dX10_common_19 : decode cX10_common 19 = .ok (.iload_n 2, 1) := by decide +kernel
theorem dX10_common_20 : decode cX10_common 20 = .ok (.iconst 0, 1) := by decide +kernel
theorem dX10_common_21 : decode cX10_common 21 = .ok (.aload_n 0, 1) := by decide +kernel
theorem dX10_common_22 : decode cX10_common 22 = .ok (.getfield 7, 3) := by decide +kernel
theorem dX10_common_25 : decode cX10_common 25 = .ok (.sipush 210, 3) := by decide +kernel
theorem dX10_common_28 : decode cX10_common 28 = .ok (.iload_n 1, 1) := by decide +kernel
theorem dX10_common_29 : decode cX10_common 29 = .ok (.iadd, 1) := by decide +kernel
theorem dX10_common_30 : decode cX10_common 30 = .ok (.iaload, 1) := by decide +kernel
theorem dX10_common_31 : decode cX10_common 31 = .ok (.iconst 1, 1) := by decide +kernel
theorem dX10_common_32 : decode cX10_common 32 = .ok (.isub, 1) := by decide +kernel
theorem dX10_common_33 : decode cX10_common 33 = .ok (.invokestatic 35, 3) := by decide +kernel
theorem dX10_common_36 : decode cX10_common 36 = .ok (.ifCond .eq 25, 3) := by decide +kernel
theorem dX10_common_39 : decode cX10_common 39 = .ok (.aload_n 0, 1) := by decide +kernel
theorem dX10_common_40 : decode cX10_common 40 = .ok (.getfield 7, 3) := by decide +kernel
theorem dX10_common_43 : decode cX10_common 43 = .ok (.sipush 212, 3) := by decide +kernel
theorem dX10_common_46 : decode cX10_common 46 = .ok (.bipush 12, 2) := by decide +kernel
theorem dX10_common_48 : decode cX10_common 48 = .ok (.iload_n 1, 1) := by decide +kernel
theorem dX10_common_49 : decode cX10_common 49 = .ok (.imul, 1) := by decide +kernel
theorem dX10_common_50 : decode cX10_common 50 = .ok (.iadd, 1) := by decide +kernel
theorem dX10_common_51 : decode cX10_common 51 = .ok (.iconst 2, 1) := by decide +kernel
theorem dX10_common_52 : decode cX10_common 52 = .ok (.iload_n 2, 1) := by decide +kernel
theorem dX10_common_53 : decode cX10_common 53 = .ok (.imul, 1) := by decide +kernel
theorem dX10_common_54 : decode cX10_common 54 = .ok (.iadd, 1) := by decide +kernel
theorem dX10_common_55 : decode cX10_common 55 = .ok (.iload_n 3, 1) := by decide +kernel
theorem dX10_common_56 : decode cX10_common 56 = .ok (.iadd, 1) := by decide +kernel
theorem dX10_common_57 : decode cX10_common 57 = .ok (.iaload, 1) := by decide +kernel
theorem dX10_common_58 : decode cX10_common 58 = .ok (.goto 4, 3) := by decide +kernel
theorem dX10_common_61 : decode cX10_common 61 = .ok (.iconst (-1), 1) := by decide +kernel
theorem dX10_common_62 : decode cX10_common 62 = .ok (.ireturn, 1) := by decide +kernel
theorem dX10_pair_0 : decode cX10_pair 0 = .ok (.iload_n 2, 1) := by decide +kernel
theorem dX10_pair_1 : decode cX10_pair 1 = .ok (.iconst 0, 1) := by decide +kernel
theorem dX10_pair_2 : decode cX10_pair 2 = .ok (.iconst 2, 1) := by decide +kernel
theorem dX10_pair_3 : decode cX10_pair 3 = .ok (.invokestatic 35, 3) := by decide +kernel
theorem dX10_pair_6 : decode cX10_pair 6 = .ok (.ifCond .ne 6, 3) := by decide +kernel
theorem dX10_pair_9 : decode cX10_pair 9 = .ok (.bipush (-2), 2) := by decide +kernel
theorem dX10_pair_11 : decode cX10_pair 11 = .ok (.ireturn, 1) := by decide +kernel
theorem dX10_pair_12 : decode cX10_pair 12 = .ok (.iload_n 1, 1) := by decide +kernel
theorem dX10_pair_13 : decode cX10_pair 13 = .ok (.iconst 0, 1) := by decide +kernel
theorem dX10_pair_14 : decode cX10_pair 14 = .ok (.aload_n 0, 1) := by decide +kernel
theorem dX10_pair_15 : decode cX10_pair 15 = .ok (.getfield 7, 3) := by decide +kernel
theorem dX10_pair_18 : decode cX10_pair 18 = .ok (.sipush 236, 3) := by decide +kernel
theorem dX10_pair_21 : decode cX10_pair 21 = .ok (.iaload, 1) := by decide +kernel
theorem dX10_pair_22 : decode cX10_pair 22 = .ok (.iconst 1, 1) := by decide +kernel
theorem dX10_pair_23 : decode cX10_pair 23 = .ok (.isub, 1) := by decide +kernel
theorem dX10_pair_24 : decode cX10_pair 24 = .ok (.invokestatic 35, 3) := by decide +kernel
theorem dX10_pair_27 : decode cX10_pair 27 = .ok (.ifCond .eq 20, 3) := by decide +kernel
theorem dX10_pair_30 : decode cX10_pair 30 = .ok (.aload_n 0, 1) := by decide +kernel
theorem dX10_pair_31 : decode cX10_pair 31 = .ok (.getfield 7, 3) := by decide +kernel
theorem dX10_pair_34 : decode cX10_pair 34 = .ok (.sipush 237, 3) := by decide +kernel
theorem dX10_pair_37 : decode cX10_pair 37 = .ok (.iconst 3, 1) := by decide +kernel
theorem dX10_pair_38 : decode cX10_pair 38 = .ok (.iload_n 1, 1) := by decide +kernel
theorem dX10_pair_39 : decode cX10_pair 39 = .ok (.imul, 1) := by decide +kernel
theorem dX10_pair_40 : decode cX10_pair 40 = .ok (.iadd, 1) := by decide +kernel
theorem dX10_pair_41 : decode cX10_pair 41 = .ok (.iload_n 2, 1) := by decide +kernel
theorem dX10_pair_42 : decode cX10_pair 42 = .ok (.iadd, 1) := by decide +kernel
theorem dX10_pair_43 : decode cX10_pair 43 = .ok (.iaload, 1) := by decide +kernel
theorem dX10_pair_44 : decode cX10_pair 44 = .ok (.goto 4, 3) := by decide +kernel
theorem dX10_pair_47 : decode cX10_pair 47 = .ok (.iconst (-1), 1) := by decide +kernel
theorem dX10_pair_48 : decode cX10_pair 48 = .ok (.ireturn, 1) := by decide +kernel
theorem dX10_count_0 : decode cX10_count 0 = .ok (.iload_n 1, 1) := by decide +kernel
theorem dX10_count_1 : decode cX10_count 1 = .ok (.iconst 0, 1) := by decide +kernel
theorem dX10_count_2 : decode cX10_count 2 = .ok (.bipush 14, 2) := by decide +kernel
theorem dX10_count_4 : decode cX10_count 4 = .ok (.invokestatic 35, 3) := by decide +kernel
theorem dX10_count_7 : decode cX10_count 7 = .ok (.ifCond .ne 6, 3) := by decide +kernel
theorem dX10_count_10 : decode cX10_count 10 = .ok (.bipush (-2), 2) := by decide +kernel
theorem dX10_count_12 : decode cX10_count 12 = .ok (.ireturn, 1) := by decide +kernel
theorem dX10_count_13 : decode cX10_count 13 = .ok (.iload_n 1, 1) := by decide +kernel
theorem dX10_count_14 : decode cX10_count 14 = .ok (.iconst 3, 1) := by decide +kernel
theorem dX10_count_15 : decode cX10_count 15 = .ok (.if_icmp .ge 27, 3) := by decide +kernel
theorem dX10_count_18 : decode cX10_count 18 = .ok (.aload_n 0, 1) := by decide +kernel
theorem dX10_count_19 : decode cX10_count 19 = .ok (.getfield 7, 3) := by decide +kernel
theorem dX10_count_22 : decode cX10_count 22 = .ok (.iload_n 1, 1) := by decide +kernel
theorem dX10_count_23 : decode cX10_count 23 = .ok (.ifCond .ne 7, 3) := by decide +kernel
theorem dX10_count_26 : decode cX10_count 26 = .ok (.iconst 0, 1) := by decide +kernel
theorem dX10_count_27 : decode cX10_count 27 = .ok (.goto 13, 3) := by decide +kernel
theorem dX10_count_30 : decode cX10_count 30 = .ok (.iload_n 1, 1) := by decide +kernel
theorem dX10_count_31 : decode cX10_count 31 = .ok (.iconst 1, 1) := by decide +kernel
theorem dX10_count_32 : decode cX10_count 32 = .ok (.if_icmp .ne 7, 3) := by decide +kernel
theorem dX10_count_35 : decode cX10_count 35 = .ok (.iconst 2, 1) := by decide +kernel
theorem dX10_count_36 : decode cX10_count 36 = .ok (.goto 4, 3) := by decide +kernel
theorem dX10_count_39 : decode cX10_count 39 = .ok (.iconst 3, 1) := by decide +kernel
theorem dX10_count_40 : decode cX10_count 40 = .ok (.iaload, 1) := by decide +kernel
theorem dX10_count_41 : decode cX10_count 41 = .ok (.ireturn, 1) := by decide +kernel
theorem dX10_count_42 : decode cX10_count 42 = .ok (.iload_n 1, 1) := by decide +kernel
theorem dX10_count_43 : decode cX10_count 43 = .ok (.bipush 9, 2) := by decide +kernel
theorem dX10_count_45 : decode cX10_count 45 = .ok (.if_icmp .ge 110, 3) := by decide +kernel
theorem dX10_count_48 : decode cX10_count 48 = .ok (.aload_n 0, 1) := by decide +kernel
theorem dX10_count_49 : decode cX10_count 49 = .ok (.getfield 7, 3) := by decide +kernel
theorem dX10_count_52 : decode cX10_count 52 = .ok (.iconst 1, 1) := by decide +kernel
theorem dX10_count_53 : decode cX10_count 53 = .ok (.iaload, 1) := by decide +kernel
theorem dX10_count_54 : decode cX10_count 54 = .ok (.ifCond .ne 8, 3) := by decide +kernel
theorem dX10_count_57 : decode cX10_count 57 = .ok (.bipush (-6), 2) := by decide +kernel
theorem dX10_count_59 : decode cX10_count 59 = .ok (.goto 34, 3) := by decide +kernel
theorem dX10_count_62 : decode cX10_count 62 = .ok (.bipush 100, 2) := by decide +kernel
theorem dX10_count_64 : decode cX10_count 64 = .ok (.aload_n 0, 1) := by decide +kernel
theorem dX10_count_65 : decode cX10_count 65 = .ok (.getfield 7, 3) := by decide +kernel
theorem dX10_count_68 : decode cX10_count 68 = .ok (.iconst 3, 1) := by decide +kernel
theorem dX10_count_69 : decode cX10_count 69 = .ok (.iaload, 1) := by decide +kernel
theorem dX10_count_70 : decode cX10_count 70 = .ok (.imul, 1) := by decide +kernel
theorem dX10_count_71 : decode cX10_count 71 = .ok (.aload_n 0, 1) := by decide +kernel
theorem dX10_count_72 : decode cX10_count 72 = .ok (.getfield 7, 3) := by decide +kernel
theorem dX10_count_75 : decode cX10_count 75 = .ok (.bipush 7, 2) := by decide +kernel
theorem dX10_count_77 : decode cX10_count 77 = .ok (.iaload, 1) := by decide +kernel
theorem dX10_count_78 : decode cX10_count 78 = .ok (.aload_n 0, 1) := by decide +kernel
theorem dX10_count_79 : decode cX10_count 79 = .ok (.getfield 7, 3) := by decide +kernel
theorem dX10_count_82 : decode cX10_count 82 = .ok (.iconst 2, 1) := by decide +kernel
theorem dX10_count_83 : decode cX10_count 83 = .ok (.iaload, 1) := by decide +kernel
theorem dX10_count_84 : decode cX10_count 84 = .ok (.imul, 1) := by decide +kernel
theorem dX10_count_85 : decode cX10_count 85 = .ok (.if_icmp .le 7, 3) := by decide +kernel
theorem dX10_count_88 : decode cX10_count 88 = .ok (.iconst 1, 1) := by decide +kernel
theorem dX10_count_89 : decode cX10_count 89 = .ok (.goto 4, 3) := by decide +kernel
theorem dX10_count_92 : decode cX10_count 92 = .ok (.iconst 0, 1) := by decide +kernel
theorem dX10_count_93 : decode cX10_count 93 = .ok (.istore_n 2, 1) := by decide +kernel
theorem dX10_count_94 : decode cX10_count 94 = .ok (.iload_n 1, 1) := by decide +kernel
theorem dX10_count_95 : decode cX10_count 95 = .ok (.iconst 3, 1) := by decide +kernel
theorem dX10_count_96 : decode cX10_count 96 = .ok (.if_icmp .ne 7, 3) := by decide +kernel
theorem dX10_count_99 : decode cX10_count 99 = .ok (.iload_n 2, 1) := by decide +kernel
theorem dX10_count_100 : decode cX10_count 100 = .ok (.goto 54, 3) := by decide +kernel
theorem dX10_count_103 : decode cX10_count 103 = .ok (.iload_n 1, 1) := by decide +kernel
theorem dX10_count_104 : decode cX10_count 104 = .ok (.bipush 6, 2) := by decide +kernel
theorem dX10_count_106 : decode cX10_count 106 = .ok (.if_icmp .ge 18, 3) := by decide +kernel
theorem dX10_count_109 : decode cX10_count 109 = .ok (.aload_n 0, 1) := by decide +kernel
theorem dX10_count_110 : decode cX10_count 110 = .ok (.getfield 7, 3) := by decide +kernel
theorem dX10_count_113 : decode cX10_count 113 = .ok (.sipush 128, 3) := by decide +kernel
theorem dX10_count_116 : decode cX10_count 116 = .ok (.iload_n 1, 1) := by decide +kernel
theorem dX10_count_117 : decode cX10_count 117 = .ok (.iadd, 1) := by decide +kernel
theorem dX10_count_118 : decode cX10_count 118 = .ok (.iconst 4, 1) := by decide +kernel
theorem dX10_count_119 : decode cX10_count 119 = .ok (.isub, 1) := by decide +kernel
theorem dX10_count_120 : decode cX10_count 120 = .ok (.iaload, 1) := by decide +kernel
theorem dX10_count_121 : decode cX10_count 121 = .ok (.goto 33, 3) := by decide +kernel
theorem dX10_count_124 : decode cX10_count 124 = .ok (.iload_n 1, 1) := by decide +kernel
theorem dX10_count_125 : decode cX10_count 125 = .ok (.bipush 8, 2) := by decide +kernel
theorem dX10_count_127 : decode cX10_count 127 = .ok (.if_icmp .ge 19, 3) := by decide +kernel
theorem dX10_count_130 : decode cX10_count 130 = .ok (.aload_n 0, 1) := by decide +kernel
theorem dX10_count_131 : decode cX10_count 131 = .ok (.getfield 7, 3) := by decide +kernel
theorem dX10_count_134 : decode cX10_count 134 = .ok (.sipush 210, 3) := by decide +kernel
theorem dX10_count_137 : decode cX10_count 137 = .ok (.iload_n 1, 1) := by decide +kernel
theorem dX10_count_138 : decode cX10_count 138 = .ok (.iadd, 1) := by decide +kernel
theorem dX10_count_139 : decode cX10_count 139 = .ok (.bipush 6, 2) := by decide +kernel
theorem dX10_count_141 : decode cX10_count 141 = .ok (.isub, 1) := by decide +kernel
theorem dX10_count_142 : decode cX10_count 142 = .ok (.iaload, 1) := by decide +kernel
theorem dX10_count_143 : decode cX10_count 143 = .ok (.goto 11, 3) := by decide +kernel
theorem dX10_count_146 : decode cX10_count 146 = .ok (.aload_n 0, 1) := by decide +kernel
theorem dX10_count_147 : decode cX10_count 147 = .ok (.getfield 7, 3) := by decide +kernel
theorem dX10_count_150 : decode cX10_count 150 = .ok (.sipush 236, 3) := by decide +kernel
theorem dX10_count_153 : decode cX10_count 153 = .ok (.iaload, 1) := by decide +kernel
theorem dX10_count_154 : decode cX10_count 154 = .ok (.ireturn, 1) := by decide +kernel
theorem dX10_count_155 : decode cX10_count 155 = .ok (.iload_n 1, 1) := by decide +kernel
theorem dX10_count_156 : decode cX10_count 156 = .ok (.bipush 13, 2) := by decide +kernel
theorem dX10_count_158 : decode cX10_count 158 = .ok (.if_icmp .ge 17, 3) := by decide +kernel
theorem dX10_count_161 : decode cX10_count 161 = .ok (.aload_n 0, 1) := by decide +kernel
theorem dX10_count_162 : decode cX10_count 162 = .ok (.getfield 7, 3) := by decide +kernel
theorem dX10_count_165 : decode cX10_count 165 = .ok (.iconst 4, 1) := by decide +kernel
theorem dX10_count_166 : decode cX10_count 166 = .ok (.iload_n 1, 1) := by decide +kernel
theorem dX10_count_167 : decode cX10_count 167 = .ok (.iadd, 1) := by decide +kernel
theorem dX10_count_168 : decode cX10_count 168 = .ok (.bipush 9, 2) := by decide +kernel
theorem dX10_count_170 : decode cX10_count 170 = .ok (.isub, 1) := by decide +kernel
theorem dX10_count_171 : decode cX10_count 171 = .ok (.iaload, 1) := by decide +kernel
theorem dX10_count_172 : decode cX10_count 172 = .ok (.goto 20, 3) := by decide +kernel
theorem dX10_count_175 : decode cX10_count 175 = .ok (.iload_n 1, 1) := by decide +kernel
theorem dX10_count_176 : decode cX10_count 176 = .ok (.bipush 13, 2) := by decide +kernel
theorem dX10_count_178 : decode cX10_count 178 = .ok (.if_icmp .ne 10, 3) := by decide +kernel
theorem dX10_count_181 : decode cX10_count 181 = .ok (.aload_n 0, 1) := by decide +kernel
theorem dX10_count_182 : decode cX10_count 182 = .ok (.getfield 148, 3) := by decide +kernel
theorem dX10_count_185 : decode cX10_count 185 = .ok (.goto 7, 3) := by decide +kernel
theorem dX10_count_188 : decode cX10_count 188 = .ok (.aload_n 0, 1) := by decide +kernel
theorem dX10_count_189 : decode cX10_count 189 = .ok (.getfield 39, 3) := by decide +kernel
theorem dX10_count_192 : decode cX10_count 192 = .ok (.ireturn, 1) := by decide +kernel
theorem dX10_byteOf_0 : decode cX10_byteOf 0 = .ok (.lload_n 0, 1) := by decide +kernel
theorem dX10_byteOf_1 : decode cX10_byteOf 1 = .ok (.bipush 8, 2) := by decide +kernel
theorem dX10_byteOf_3 : decode cX10_byteOf 3 = .ok (.iload_n 2, 1) := by decide +kernel
theorem dX10_byteOf_4 : decode cX10_byteOf 4 = .ok (.imul, 1) := by decide +kernel
theorem dX10_byteOf_5 : decode cX10_byteOf 5 = .ok (.lshr, 1) := by decide +kernel
theorem dX10_byteOf_6 : decode cX10_byteOf 6 = .ok (.ldc2_w 151, 3) := by decide +kernel
theorem dX10_byteOf_9 : decode cX10_byteOf 9 = .ok (.land, 1) := by decide +kernel
theorem dX10_byteOf_10 : decode cX10_byteOf 10 = .ok (.l2i, 1) := by decide +kernel
theorem dX10_byteOf_11 : decode cX10_byteOf 11 = .ok (.ireturn, 1) := by decide +kernel
theorem dX10_toldBy_0 : decode cX10_toldBy 0 = .ok (.iconst 0, 1) := by decide +kernel
theorem dX10_toldBy_1 : decode cX10_toldBy 1 = .ok (.istore_n 2, 1) := by decide +kernel
theorem dX10_toldBy_2 : decode cX10_toldBy 2 = .ok (.iload_n 2, 1) := by decide +kernel
theorem dX10_toldBy_3 : decode cX10_toldBy 3 = .ok (.bipush 8, 2) := by decide +kernel
theorem dX10_toldBy_5 : decode cX10_toldBy 5 = .ok (.if_icmp .ge 35, 3) := by decide +kernel
theorem dX10_toldBy_8 : decode cX10_toldBy 8 = .ok (.lload_n 0, 1) := by decide +kernel
theorem dX10_toldBy_9 : decode cX10_toldBy 9 = .ok (.iload_n 2, 1) := by decide +kernel
theorem dX10_toldBy_10 : decode cX10_toldBy 10 = .ok (.invokestatic 153, 3) := by decide +kernel
theorem dX10_toldBy_13 : decode cX10_toldBy 13 = .ok (.ifCond .eq 27, 3) := by decide +kernel
theorem dX10_toldBy_16 : decode cX10_toldBy 16 = .ok (.lload_n 0, 1) := by decide +kernel
theorem dX10_toldBy_17 : decode cX10_toldBy 17 = .ok (.iload_n 2, 1) := by decide +kernel
theorem dX10_toldBy_18 : decode cX10_toldBy 18 = .ok (.invokestatic 153, 3) := by decide +kernel
theorem dX10_toldBy_21 : decode cX10_toldBy 21 = .ok (.bipush 33, 2) := by decide +kernel
theorem dX10_toldBy_23 : decode cX10_toldBy 23 = .ok (.bipush 126, 2) := by decide +kernel
theorem dX10_toldBy_25 : decode cX10_toldBy 25 = .ok (.invokestatic 35, 3) := by decide +kernel
theorem dX10_toldBy_28 : decode cX10_toldBy 28 = .ok (.ifCond .ne 6, 3) := by decide +kernel
theorem dX10_toldBy_31 : decode cX10_toldBy 31 = .ok (.bipush (-2), 2) := by decide +kernel
theorem dX10_toldBy_33 : decode cX10_toldBy 33 = .ok (.ireturn, 1) := by decide +kernel
theorem dX10_toldBy_34 : decode cX10_toldBy 34 = .ok (.iinc 2 1, 3) := by decide +kernel
theorem dX10_toldBy_37 : decode cX10_toldBy 37 = .ok (.goto (-35), 3) := by decide +kernel
theorem dX10_toldBy_40 : decode cX10_toldBy 40 = .ok (.iload_n 2, 1) := by decide +kernel
theorem dX10_toldBy_41 : decode cX10_toldBy 41 = .ok (.istore_n 3, 1) := by decide +kernel
theorem dX10_toldBy_42 : decode cX10_toldBy 42 = .ok (.iload_n 3, 1) := by decide +kernel
theorem dX10_toldBy_43 : decode cX10_toldBy 43 = .ok (.bipush 8, 2) := by decide +kernel
theorem dX10_toldBy_45 : decode cX10_toldBy 45 = .ok (.if_icmp .ge 20, 3) := by decide +kernel
theorem dX10_toldBy_48 : decode cX10_toldBy 48 = .ok (.lload_n 0, 1) := by decide +kernel
theorem dX10_toldBy_49 : decode cX10_toldBy 49 = .ok (.iload_n 3, 1) := by decide +kernel
theorem dX10_toldBy_50 : decode cX10_toldBy 50 = .ok (.invokestatic 153, 3) := by decide +kernel
theorem dX10_toldBy_53 : decode cX10_toldBy 53 = .ok (.ifCond .eq 6, 3) := by decide +kernel
theorem dX10_toldBy_56 : decode cX10_toldBy 56 = .ok (.bipush (-2), 2) := by decide +kernel
theorem dX10_toldBy_58 : decode cX10_toldBy 58 = .ok (.ireturn, 1) := by decide +kernel
theorem dX10_toldBy_59 : decode cX10_toldBy 59 = .ok (.iinc 3 1, 3) := by decide +kernel
theorem dX10_toldBy_62 : decode cX10_toldBy 62 = .ok (.goto (-20), 3) := by decide +kernel
theorem dX10_toldBy_65 : decode cX10_toldBy 65 = .ok (.iload_n 2, 1) := by decide +kernel
theorem dX10_toldBy_66 : decode cX10_toldBy 66 = .ok (.ifCond .ne 8, 3) := by decide +kernel
theorem dX10_toldBy_69 : decode cX10_toldBy 69 = .ok (.bipush (-2), 2) := by decide +kernel
theorem dX10_toldBy_71 : decode cX10_toldBy 71 = .ok (.goto 4, 3) := by decide +kernel
theorem dX10_toldBy_74 : decode cX10_toldBy 74 = .ok (.iload_n 2, 1) := by decide +kernel
theorem dX10_toldBy_75 : decode cX10_toldBy 75 = .ok (.ireturn, 1) := by decide +kernel
theorem dX10_put_0 : decode cX10_put 0 = .ok (.lload_n 1, 1) := by decide +kernel
theorem dX10_put_1 : decode cX10_put 1 = .ok (.invokestatic 157, 3) := by decide +kernel
theorem dX10_put_4 : decode cX10_put 4 = .ok (.istore_n 3, 1) := by decide +kernel
theorem dX10_put_5 : decode cX10_put 5 = .ok (.iload_n 3, 1) := by decide +kernel
theorem dX10_put_6 : decode cX10_put 6 = .ok (.ifCond .ge 5, 3) := by decide +kernel
theorem dX10_put_9 : decode cX10_put 9 = .ok (.iload_n 3, 1) := by decide +kernel
theorem dX10_put_10 : decode cX10_put 10 = .ok (.ireturn, 1) := by decide +kernel
theorem dX10_put_11 : decode cX10_put 11 = .ok (.aload_n 0, 1) := by decide +kernel
theorem dX10_put_12 : decode cX10_put 12 = .ok (.getfield 148, 3) := by decide +kernel
theorem dX10_put_15 : decode cX10_put 15 = .ok (.iload_n 3, 1) := by decide +kernel
theorem dX10_put_16 : decode cX10_put 16 = .ok (.iadd, 1) := by decide +kernel
theorem dX10_put_17 : decode cX10_put 17 = .ok (.bipush 80, 2) := by decide +kernel
theorem dX10_put_19 : decode cX10_put 19 = .ok (.if_icmp .le 6, 3) := by decide +kernel
theorem dX10_put_22 : decode cX10_put 22 = .ok (.bipush (-4), 2) := by decide +kernel
theorem dX10_put_24 : decode cX10_put 24 = .ok (.ireturn, 1) := by decide +kernel
theorem dX10_put_25 : decode cX10_put 25 = .ok (.iload_n 3, 1) := by decide +kernel
theorem dX10_put_26 : decode cX10_put 26 = .ok (.iconst 1, 1) := by decide +kernel
theorem dX10_put_27 : decode cX10_put 27 = .ok (.isub, 1) := by decide +kernel
theorem dX10_put_28 : decode cX10_put 28 = .ok (.istore 4, 2) := by decide +kernel
theorem dX10_put_30 : decode cX10_put 30 = .ok (.iload 4, 2) := by decide +kernel
theorem dX10_put_32 : decode cX10_put 32 = .ok (.ifCond .lt 34, 3) := by decide +kernel
theorem dX10_put_35 : decode cX10_put 35 = .ok (.aload_n 0, 1) := by decide +kernel
theorem dX10_put_36 : decode cX10_put 36 = .ok (.getfield 26, 3) := by decide +kernel
theorem dX10_put_39 : decode cX10_put 39 = .ok (.aload_n 0, 1) := by decide +kernel
theorem dX10_put_40 : decode cX10_put 40 = .ok (.getfield 148, 3) := by decide +kernel
theorem dX10_put_43 : decode cX10_put 43 = .ok (.lload_n 1, 1) := by decide +kernel
theorem dX10_put_44 : decode cX10_put 44 = .ok (.iload 4, 2) := by decide +kernel
theorem dX10_put_46 : decode cX10_put 46 = .ok (.invokestatic 153, 3) := by decide +kernel
theorem dX10_put_49 : decode cX10_put 49 = .ok (.iastore, 1) := by decide +kernel
theorem dX10_put_50 : decode cX10_put 50 = .ok (.aload_n 0, 1) := by decide +kernel
theorem dX10_put_51 : decode cX10_put 51 = .ok (.dup, 1) := by decide +kernel
theorem dX10_put_52 : decode cX10_put 52 = .ok (.getfield 148, 3) := by decide +kernel
theorem dX10_put_55 : decode cX10_put 55 = .ok (.iconst 1, 1) := by decide +kernel
theorem dX10_put_56 : decode cX10_put 56 = .ok (.iadd, 1) := by decide +kernel
theorem dX10_put_57 : decode cX10_put 57 = .ok (.putfield 148, 3) := by decide +kernel
theorem dX10_put_60 : decode cX10_put 60 = .ok (.iinc 4 (-1), 3) := by decide +kernel
theorem dX10_put_63 : decode cX10_put 63 = .ok (.goto (-33), 3) := by decide +kernel
theorem dX10_put_66 : decode cX10_put 66 = .ok (.aload_n 0, 1) := by decide +kernel
theorem dX10_put_67 : decode cX10_put 67 = .ok (.getfield 148, 3) := by decide +kernel
theorem dX10_put_70 : decode cX10_put 70 = .ok (.ireturn, 1) := by decide +kernel
theorem dX10_wipe_0 : decode cX10_wipe 0 = .ok (.aload_n 0, 1) := by decide +kernel
theorem dX10_wipe_1 : decode cX10_wipe 1 = .ok (.getfield 148, 3) := by decide +kernel
theorem dX10_wipe_4 : decode cX10_wipe 4 = .ok (.istore_n 1, 1) := by decide +kernel
theorem dX10_wipe_5 : decode cX10_wipe 5 = .ok (.aload_n 0, 1) := by decide +kernel
theorem dX10_wipe_6 : decode cX10_wipe 6 = .ok (.iconst 0, 1) := by decide +kernel
theorem dX10_wipe_7 : decode cX10_wipe 7 = .ok (.putfield 148, 3) := by decide +kernel
theorem dX10_wipe_10 : decode cX10_wipe 10 = .ok (.iload_n 1, 1) := by decide +kernel
theorem dX10_wipe_11 : decode cX10_wipe 11 = .ok (.ireturn, 1) := by decide +kernel
theorem dX10_isAt_0 : decode cX10_isAt 0 = .ok (.aload_n 0, 1) := by decide +kernel
theorem dX10_isAt_1 : decode cX10_isAt 1 = .ok (.getfield 161, 3) := by decide +kernel
theorem dX10_isAt_4 : decode cX10_isAt 4 = .ok (.aload_n 0, 1) := by decide +kernel
theorem dX10_isAt_5 : decode cX10_isAt 5 = .ok (.getfield 148, 3) := by decide +kernel
theorem dX10_isAt_8 : decode cX10_isAt 8 = .ok (.if_icmp .ge 24, 3) := by decide +kernel
theorem dX10_isAt_11 : decode cX10_isAt 11 = .ok (.aload_n 0, 1) := by decide +kernel
theorem dX10_isAt_12 : decode cX10_isAt 12 = .ok (.getfield 26, 3) := by decide +kernel
theorem dX10_isAt_15 : decode cX10_isAt 15 = .ok (.aload_n 0, 1) := by decide +kernel
theorem dX10_isAt_16 : decode cX10_isAt 16 = .ok (.getfield 161, 3) := by decide +kernel
theorem dX10_isAt_19 : decode cX10_isAt 19 = .ok (.iaload, 1) := by decide +kernel
theorem dX10_isAt_20 : decode cX10_isAt 20 = .ok (.iload_n 1, 1) := by decide +kernel
theorem dX10_isAt_21 : decode cX10_isAt 21 = .ok (.iload_n 2, 1) := by decide +kernel
theorem dX10_isAt_22 : decode cX10_isAt 22 = .ok (.invokestatic 35, 3) := by decide +kernel
theorem dX10_isAt_25 : decode cX10_isAt 25 = .ok (.ifCond .eq 7, 3) := by decide +kernel
theorem dX10_isAt_28 : decode cX10_isAt 28 = .ok (.iconst 1, 1) := by decide +kernel
theorem dX10_isAt_29 : decode cX10_isAt 29 = .ok (.goto 4, 3) := by decide +kernel
theorem dX10_isAt_32 : decode cX10_isAt 32 = .ok (.iconst 0, 1) := by decide +kernel
theorem dX10_isAt_33 : decode cX10_isAt 33 = .ok (.ireturn, 1) := by decide +kernel
theorem dX10_isSign_0 : decode cX10_isSign 0 = .ok (.aload_n 0, 1) := by decide +kernel
theorem dX10_isSign_1 : decode cX10_isSign 1 = .ok (.iload_n 1, 1) := by decide +kernel
theorem dX10_isSign_2 : decode cX10_isSign 2 = .ok (.iload_n 1, 1) := by decide +kernel
theorem dX10_isSign_3 : decode cX10_isSign 3 = .ok (.invokevirtual 164, 3) := by decide +kernel
theorem dX10_isSign_6 : decode cX10_isSign 6 = .ok (.istore_n 2, 1) := by decide +kernel
theorem dX10_isSign_7 : decode cX10_isSign 7 = .ok (.aload_n 0, 1) := by decide +kernel
theorem dX10_isSign_8 : decode cX10_isSign 8 = .ok (.dup, 1) := by decide +kernel
theorem dX10_isSign_9 : decode cX10_isSign 9 = .ok (.getfield 161, 3) := by decide +kernel
theorem dX10_isSign_12 : decode cX10_isSign 12 = .ok (.iload_n 2, 1) := by decide +kernel
theorem dX10_isSign_13 : decode cX10_isSign 13 = .ok (.ifCond .eq 7, 3) := by decide +kernel
theorem dX10_isSign_16 : decode cX10_isSign 16 = .ok (.iconst 1, 1) := by decide +kernel
theorem dX10_isSign_17 : decode cX10_isSign 17 = .ok (.goto 4, 3) := by decide +kernel
theorem dX10_isSign_20 : decode cX10_isSign 20 = .ok (.iconst 0, 1) := by decide +kernel
theorem dX10_isSign_21 : decode cX10_isSign 21 = .ok (.iadd, 1) := by decide +kernel
theorem dX10_isSign_22 : decode cX10_isSign 22 = .ok (.putfield 161, 3) := by decide +kernel
theorem dX10_isSign_25 : decode cX10_isSign 25 = .ok (.iload_n 2, 1) := by decide +kernel
theorem dX10_isSign_26 : decode cX10_isSign 26 = .ok (.ireturn, 1) := by decide +kernel
theorem dX10_isNumber_0 : decode cX10_isNumber 0 = .ok (.aload_n 0, 1) := by decide +kernel
theorem dX10_isNumber_1 : decode cX10_isNumber 1 = .ok (.bipush 48, 2) := by decide +kernel
theorem dX10_isNumber_3 : decode cX10_isNumber 3 = .ok (.bipush 57, 2) := by decide +kernel
theorem dX10_isNumber_5 : decode cX10_isNumber 5 = .ok (.invokevirtual 164, 3) := by decide +kernel
theorem dX10_isNumber_8 : decode cX10_isNumber 8 = .ok (.ifCond .ne 5, 3) := by decide +kernel
theorem dX10_isNumber_11 : decode cX10_isNumber 11 = .ok (.iconst 0, 1) := by decide +kernel
theorem dX10_isNumber_12 : decode cX10_isNumber 12 = .ok (.ireturn, 1) := by decide +kernel
theorem dX10_isNumber_13 : decode cX10_isNumber 13 = .ok (.aload_n 0, 1) := by decide +kernel
theorem dX10_isNumber_14 : decode cX10_isNumber 14 = .ok (.getfield 26, 3) := by decide +kernel
theorem dX10_isNumber_17 : decode cX10_isNumber 17 = .ok (.aload_n 0, 1) := by decide +kernel
theorem dX10_isNumber_18 : decode cX10_isNumber 18 = .ok (.getfield 161, 3) := by decide +kernel
theorem dX10_isNumber_21 : decode cX10_isNumber 21 = .ok (.iaload, 1) := by decide +kernel
theorem dX10_isNumber_22 : decode cX10_isNumber 22 = .ok (.bipush 48, 2) := by decide +kernel
theorem dX10_isNumber_24 : decode cX10_isNumber 24 = .ok (.isub, 1) := by decide +kernel
theorem dX10_isNumber_25 : decode cX10_isNumber 25 = .ok (.istore_n 2, 1) := by decide +kernel
theorem dX10_isNumber_26 : decode cX10_isNumber 26 = .ok (.aload_n 0, 1) := by decide +kernel
theorem dX10_isNumber_27 : decode cX10_isNumber 27 = .ok (.dup, 1) := by decide +kernel
theorem dX10_isNumber_28 : decode cX10_isNumber 28 = .ok (.getfield 161, 3) := by decide +kernel
theorem dX10_isNumber_31 : decode cX10_isNumber 31 = .ok (.iconst 1, 1) := by decide +kernel
theorem dX10_isNumber_32 : decode cX10_isNumber 32 = .ok (.iadd, 1) := by decide +kernel
theorem dX10_isNumber_33 : decode cX10_isNumber 33 = .ok (.putfield 161, 3) := by decide +kernel
theorem dX10_isNumber_36 : decode cX10_isNumber 36 = .ok (.iload_n 2, 1) := by decide +kernel
theorem dX10_isNumber_37 : decode cX10_isNumber 37 = .ok (.ifCond .le 42, 3) := by decide +kernel
theorem dX10_isNumber_40 : decode cX10_isNumber 40 = .ok (.aload_n 0, 1) := by decide +kernel
theorem dX10_isNumber_41 : decode cX10_isNumber 41 = .ok (.bipush 48, 2) := by decide +kernel
theorem dX10_isNumber_43 : decode cX10_isNumber 43 = .ok (.bipush 57, 2) := by decide +kernel
theorem dX10_isNumber_45 : decode cX10_isNumber 45 = .ok (.invokevirtual 164, 3) := by decide +kernel
theorem dX10_isNumber_48 : decode cX10_isNumber 48 = .ok (.ifCond .eq 31, 3) := by decide +kernel
theorem dX10_isNumber_51 : decode cX10_isNumber 51 = .ok (.bipush 10, 2) := by decide +kernel
theorem dX10_isNumber_53 : decode cX10_isNumber 53 = .ok (.iload_n 2, 1) := by decide +kernel
theorem dX10_isNumber_54 : decode cX10_isNumber 54 = .ok (.imul, 1) := by decide +kernel
theorem dX10_isNumber_55 : decode cX10_isNumber 55 = .ok (.aload_n 0, 1) := by decide +kernel
theorem dX10_isNumber_56 : decode cX10_isNumber 56 = .ok (.getfield 26, 3) := by decide +kernel
theorem dX10_isNumber_59 : decode cX10_isNumber 59 = .ok (.aload_n 0, 1) := by decide +kernel
theorem dX10_isNumber_60 : decode cX10_isNumber 60 = .ok (.getfield 161, 3) := by decide +kernel
theorem dX10_isNumber_63 : decode cX10_isNumber 63 = .ok (.iaload, 1) := by decide +kernel
theorem dX10_isNumber_64 : decode cX10_isNumber 64 = .ok (.iadd, 1) := by decide +kernel
theorem dX10_isNumber_65 : decode cX10_isNumber 65 = .ok (.bipush 48, 2) := by decide +kernel
theorem dX10_isNumber_67 : decode cX10_isNumber 67 = .ok (.isub, 1) := by decide +kernel
theorem dX10_isNumber_68 : decode cX10_isNumber 68 = .ok (.istore_n 2, 1) := by decide +kernel
theorem dX10_isNumber_69 : decode cX10_isNumber 69 = .ok (.aload_n 0, 1) := by decide +kernel
theorem dX10_isNumber_70 : decode cX10_isNumber 70 = .ok (.dup, 1) := by decide +kernel
theorem dX10_isNumber_71 : decode cX10_isNumber 71 = .ok (.getfield 161, 3) := by decide +kernel
theorem dX10_isNumber_74 : decode cX10_isNumber 74 = .ok (.iconst 1, 1) := by decide +kernel
theorem dX10_isNumber_75 : decode cX10_isNumber 75 = .ok (.iadd, 1) := by decide +kernel
theorem dX10_isNumber_76 : decode cX10_isNumber 76 = .ok (.putfield 161, 3) := by decide +kernel
theorem dX10_isNumber_79 : decode cX10_isNumber 79 = .ok (.aload_n 0, 1) := by decide +kernel
theorem dX10_isNumber_80 : decode cX10_isNumber 80 = .ok (.getfield 29, 3) := by decide +kernel
theorem dX10_isNumber_83 : decode cX10_isNumber 83 = .ok (.iconst 4, 1) := by decide +kernel
theorem dX10_isNumber_84 : decode cX10_isNumber 84 = .ok (.aload_n 0, 1) := by decide +kernel
theorem dX10_isNumber_85 : decode cX10_isNumber 85 = .ok (.getfield 167, 3) := by decide +kernel
theorem dX10_isNumber_88 : decode cX10_isNumber 88 = .ok (.imul, 1) := by decide +kernel
theorem dX10_isNumber_89 : decode cX10_isNumber 89 = .ok (.iload_n 1, 1) := by decide +kernel
theorem dX10_isNumber_90 : decode cX10_isNumber 90 = .ok (.iadd, 1) := by decide +kernel
theorem dX10_isNumber_91 : decode cX10_isNumber 91 = .ok (.iload_n 2, 1) := by decide +kernel
theorem dX10_isNumber_92 : decode cX10_isNumber 92 = .ok (.iastore, 1) := by decide +kernel
theorem dX10_isNumber_93 : decode cX10_isNumber 93 = .ok (.iconst 1, 1) := by decide +kernel
theorem dX10_isNumber_94 : decode cX10_isNumber 94 = .ok (.ireturn, 1) := by decide +kernel
theorem dX10_isComing_0 : decode cX10_isComing 0 = .ok (.aload_n 0, 1) := by decide +kernel
theorem dX10_isComing_1 : decode cX10_isComing 1 = .ok (.getfield 29, 3) := by decide +kernel
theorem dX10_isComing_4 : decode cX10_isComing 4 = .ok (.iconst 4, 1) := by decide +kernel
theorem dX10_isComing_5 : decode cX10_isComing 5 = .ok (.aload_n 0, 1) := by decide +kernel
theorem dX10_isComing_6 : decode cX10_isComing 6 = .ok (.getfield 167, 3) := by decide +kernel
theorem dX10_isComing_9 : decode cX10_isComing 9 = .ok (.imul, 1) := by decide +kernel
theorem dX10_isComing_10 : decode cX10_isComing 10 = .ok (.iconst 3, 1) := by decide +kernel
theorem dX10_isComing_11 : decode cX10_isComing 11 = .ok (.iadd, 1) := by decide +kernel
theorem dX10_isComing_12 : decode cX10_isComing 12 = .ok (.iconst 1, 1) := by decide +kernel
theorem dX10_isComing_13 : decode cX10_isComing 13 = .ok (.iastore, 1) := by decide +kernel
theorem dX10_isComing_14 : decode cX10_isComing 14 = .ok (.aload_n 0, 1) := by decide +kernel
theorem dX10_isComing_15 : decode cX10_isComing 15 = .ok (.iconst 1, 1) := by decide +kernel
theorem dX10_isComing_16 : decode cX10_isComing 16 = .ok (.invokevirtual 170, 3) := by decide +kernel
theorem dX10_isComing_19 : decode cX10_isComing 19 = .ok (.ifCond .eq 20, 3) := by decide +kernel
theorem dX10_isComing_22 : decode cX10_isComing 22 = .ok (.aload_n 0, 1) := by decide +kernel
theorem dX10_isComing_23 : decode cX10_isComing 23 = .ok (.bipush 44, 2) := by decide +kernel
theorem dX10_isComing_25 : decode cX10_isComing 25 = .ok (.invokevirtual 173, 3) := by decide +kernel
theorem dX10_isComing_28 : decode cX10_isComing 28 = .ok (.ifCond .eq 11, 3) := by decide +kernel
theorem dX10_isComing_31 : decode cX10_isComing 31 = .ok (.aload_n 0, 1) := by decide +kernel
theorem dX10_isComing_32 : decode cX10_isComing 32 = .ok (.iconst 2, 1) := by decide +kernel
theorem dX10_isComing_33 : decode cX10_isComing 33 = .ok (.invokevirtual 170, 3) := by decide +kernel
theorem dX10_isComing_36 : decode cX10_isComing 36 = .ok (.ifCond .ne 5, 3) := by decide +kernel
theorem dX10_isComing_39 : decode cX10_isComing 39 = .ok (.iconst 0, 1) := by decide +kernel
theorem dX10_isComing_40 : decode cX10_isComing 40 = .ok (.ireturn, 1) := by decide +kernel
theorem dX10_isComing_41 : decode cX10_isComing 41 = .ok (.aload_n 0, 1) := by decide +kernel
theorem dX10_isComing_42 : decode cX10_isComing 42 = .ok (.bipush 42, 2) := by decide +kernel
theorem dX10_isComing_44 : decode cX10_isComing 44 = .ok (.invokevirtual 173, 3) := by decide +kernel
theorem dX10_isComing_47 : decode cX10_isComing 47 = .ok (.ifCond .eq 51, 3) := by decide +kernel
theorem dX10_isComing_50 : decode cX10_isComing 50 = .ok (.aload_n 0, 1) := by decide +kernel
theorem dX10_isComing_51 : decode cX10_isComing 51 = .ok (.bipush 49, 2) := by decide +kernel
theorem dX10_isComing_53 : decode cX10_isComing 53 = .ok (.bipush 57, 2) := by decide +kernel
theorem dX10_isComing_55 : decode cX10_isComing 55 = .ok (.invokevirtual 164, 3) := by decide +kernel
theorem dX10_isComing_58 : decode cX10_isComing 58 = .ok (.ifCond .ne 5, 3) := by decide +kernel
theorem dX10_isComing_61 : decode cX10_isComing 61 = .ok (.iconst 0, 1) := by decide +kernel
theorem dX10_isComing_62 : decode cX10_isComing 62 = .ok (.ireturn, 1) := by decide +kernel
theorem dX10_isComing_63 : decode cX10_isComing 63 = .ok (.aload_n 0, 1) := by decide +kernel
theorem dX10_isComing_64 : decode cX10_isComing 64 = .ok (.getfield 29, 3) := by decide +kernel
theorem dX10_isComing_67 : decode cX10_isComing 67 = .ok (.iconst 4, 1) := by decide +kernel
theorem dX10_isComing_68 : decode cX10_isComing 68 = .ok (.aload_n 0, 1) := by decide +kernel
theorem dX10_isComing_69 : decode cX10_isComing 69 = .ok (.getfield 167, 3) := by decide +kernel
theorem dX10_isComing_72 : decode cX10_isComing 72 = .ok (.imul, 1) := by decide +kernel
theorem dX10_isComing_73 : decode cX10_isComing 73 = .ok (.iconst 3, 1) := by decide +kernel
theorem dX10_isComing_74 : decode cX10_isComing 74 = .ok (.iadd, 1) := by decide +kernel
theorem dX10_isComing_75 : decode cX10_isComing 75 = .ok (.aload_n 0, 1) := by decide +kernel
theorem dX10_isComing_76 : decode cX10_isComing 76 = .ok (.getfield 26, 3) := by decide +kernel
theorem dX10_isComing_79 : decode cX10_isComing 79 = .ok (.aload_n 0, 1) := by decide +kernel
theorem dX10_isComing_80 : decode cX10_isComing 80 = .ok (.getfield 161, 3) := by decide +kernel
theorem dX10_isComing_83 : decode cX10_isComing 83 = .ok (.iaload, 1) := by decide +kernel
theorem dX10_isComing_84 : decode cX10_isComing 84 = .ok (.bipush 48, 2) := by decide +kernel
theorem dX10_isComing_86 : decode cX10_isComing 86 = .ok (.isub, 1) := by decide +kernel
theorem dX10_isComing_87 : decode cX10_isComing 87 = .ok (.iastore, 1) := by decide +kernel
theorem dX10_isComing_88 : decode cX10_isComing 88 = .ok (.aload_n 0, 1) := by decide +kernel
theorem dX10_isComing_89 : decode cX10_isComing 89 = .ok (.dup, 1) := by decide +kernel
theorem dX10_isComing_90 : decode cX10_isComing 90 = .ok (.getfield 161, 3) := by decide +kernel
theorem dX10_isComing_93 : decode cX10_isComing 93 = .ok (.iconst 1, 1) := by decide +kernel
theorem dX10_isComing_94 : decode cX10_isComing 94 = .ok (.iadd, 1) := by decide +kernel
theorem dX10_isComing_95 : decode cX10_isComing 95 = .ok (.putfield 161, 3) := by decide +kernel
theorem dX10_isComing_98 : decode cX10_isComing 98 = .ok (.iconst 1, 1) := by decide +kernel
theorem dX10_isComing_99 : decode cX10_isComing 99 = .ok (.ireturn, 1) := by decide +kernel
theorem dX10_isOrder_0 : decode cX10_isOrder 0 = .ok (.aload_n 0, 1) := by decide +kernel
theorem dX10_isOrder_1 : decode cX10_isOrder 1 = .ok (.getfield 161, 3) := by decide +kernel
theorem dX10_isOrder_4 : decode cX10_isOrder 4 = .ok (.aload_n 0, 1) := by decide +kernel
theorem dX10_isOrder_5 : decode cX10_isOrder 5 = .ok (.getfield 148, 3) := by decide +kernel
theorem dX10_isOrder_8 : decode cX10_isOrder 8 = .ok (.if_icmp .ge 15, 3) := by decide +kernel
theorem dX10_isOrder_11 : decode cX10_isOrder 11 = .ok (.aload_n 0, 1) := by decide +kernel
theorem dX10_isOrder_12 : decode cX10_isOrder 12 = .ok (.getfield 26, 3) := by decide +kernel
theorem dX10_isOrder_15 : decode cX10_isOrder 15 = .ok (.aload_n 0, 1) := by decide +kernel
theorem dX10_isOrder_16 : decode cX10_isOrder 16 = .ok (.getfield 161, 3) := by decide +kernel
theorem dX10_isOrder_19 : decode cX10_isOrder 19 = .ok (.iaload, 1) := by decide +kernel
theorem dX10_isOrder_20 : decode cX10_isOrder 20 = .ok (.goto 4, 3) := by decide +kernel
theorem dX10_isOrder_23 : decode cX10_isOrder 23 = .ok (.iconst 0, 1) := by decide +kernel
theorem dX10_isOrder_24 : decode cX10_isOrder 24 = .ok (.istore_n 1, 1) := by decide +kernel
theorem dX10_isOrder_25 : decode cX10_isOrder 25 = .ok (.aload_n 0, 1) := by decide +kernel
theorem dX10_isOrder_26 : decode cX10_isOrder 26 = .ok (.getfield 29, 3) := by decide +kernel
theorem dX10_isOrder_29 : decode cX10_isOrder 29 = .ok (.iconst 4, 1) := by decide +kernel
theorem dX10_isOrder_30 : decode cX10_isOrder 30 = .ok (.aload_n 0, 1) := by decide +kernel
theorem dX10_isOrder_31 : decode cX10_isOrder 31 = .ok (.getfield 167, 3) := by decide +kernel
theorem dX10_isOrder_34 : decode cX10_isOrder 34 = .ok (.imul, 1) := by decide +kernel
theorem dX10_isOrder_35 : decode cX10_isOrder 35 = .ok (.iload_n 1, 1) := by decide +kernel
theorem dX10_isOrder_36 : decode cX10_isOrder 36 = .ok (.iastore, 1) := by decide +kernel
theorem dX10_isOrder_37 : decode cX10_isOrder 37 = .ok (.iload_n 1, 1) := by decide +kernel
theorem dX10_isOrder_38 : decode cX10_isOrder 38 = .ok (.lookupswitch 101 #[(43, 70), (45, 85), (97, 58), (98, 85), (99, 85), (112, 85)], 58) := by decide +kernel
theorem dX10_isOrder_96 : decode cX10_isOrder 96 = .ok (.aload_n 0, 1) := by decide +kernel
theorem dX10_isOrder_97 : decode cX10_isOrder 97 = .ok (.dup, 1) := by decide +kernel
theorem dX10_isOrder_98 : decode cX10_isOrder 98 = .ok (.getfield 161, 3) := by decide +kernel
theorem dX10_isOrder_101 : decode cX10_isOrder 101 = .ok (.iconst 1, 1) := by decide +kernel
theorem dX10_isOrder_102 : decode cX10_isOrder 102 = .ok (.iadd, 1) := by decide +kernel
theorem dX10_isOrder_103 : decode cX10_isOrder 103 = .ok (.putfield 161, 3) := by decide +kernel
theorem dX10_isOrder_106 : decode cX10_isOrder 106 = .ok (.iconst 1, 1) := by decide +kernel
theorem dX10_isOrder_107 : decode cX10_isOrder 107 = .ok (.ireturn, 1) := by decide +kernel
theorem dX10_isOrder_108 : decode cX10_isOrder 108 = .ok (.aload_n 0, 1) := by decide +kernel
theorem dX10_isOrder_109 : decode cX10_isOrder 109 = .ok (.dup, 1) := by decide +kernel
theorem dX10_isOrder_110 : decode cX10_isOrder 110 = .ok (.getfield 161, 3) := by decide +kernel
theorem dX10_isOrder_113 : decode cX10_isOrder 113 = .ok (.iconst 1, 1) := by decide +kernel
theorem dX10_isOrder_114 : decode cX10_isOrder 114 = .ok (.iadd, 1) := by decide +kernel
theorem dX10_isOrder_115 : decode cX10_isOrder 115 = .ok (.putfield 161, 3) := by decide +kernel
theorem dX10_isOrder_118 : decode cX10_isOrder 118 = .ok (.aload_n 0, 1) := by decide +kernel
theorem dX10_isOrder_119 : decode cX10_isOrder 119 = .ok (.invokevirtual 176, 3) := by decide +kernel
theorem dX10_isOrder_122 : decode cX10_isOrder 122 = .ok (.ireturn, 1) := by decide +kernel
theorem dX10_isOrder_123 : decode cX10_isOrder 123 = .ok (.aload_n 0, 1) := by decide +kernel
theorem dX10_isOrder_124 : decode cX10_isOrder 124 = .ok (.dup, 1) := by decide +kernel
theorem dX10_isOrder_125 : decode cX10_isOrder 125 = .ok (.getfield 161, 3) := by decide +kernel
theorem dX10_isOrder_128 : decode cX10_isOrder 128 = .ok (.iconst 1, 1) := by decide +kernel
theorem dX10_isOrder_129 : decode cX10_isOrder 129 = .ok (.iadd, 1) := by decide +kernel
theorem dX10_isOrder_130 : decode cX10_isOrder 130 = .ok (.putfield 161, 3) := by decide +kernel
theorem dX10_isOrder_133 : decode cX10_isOrder 133 = .ok (.aload_n 0, 1) := by decide +kernel
theorem dX10_isOrder_134 : decode cX10_isOrder 134 = .ok (.iconst 1, 1) := by decide +kernel
theorem dX10_isOrder_135 : decode cX10_isOrder 135 = .ok (.invokevirtual 170, 3) := by decide +kernel
theorem dX10_isOrder_138 : decode cX10_isOrder 138 = .ok (.ireturn, 1) := by decide +kernel
theorem dX10_isOrder_139 : decode cX10_isOrder 139 = .ok (.iconst 0, 1) := by decide +kernel
theorem dX10_isOrder_140 : decode cX10_isOrder 140 = .ok (.ireturn, 1) := by decide +kernel
theorem dX10_isText_0 : decode cX10_isText 0 = .ok (.aload_n 0, 1) := by decide +kernel
theorem dX10_isText_1 : decode cX10_isText 1 = .ok (.iconst 0, 1) := by decide +kernel
theorem dX10_isText_2 : decode cX10_isText 2 = .ok (.putfield 161, 3) := by decide +kernel
theorem dX10_isText_5 : decode cX10_isText 5 = .ok (.aload_n 0, 1) := by decide +kernel
theorem dX10_isText_6 : decode cX10_isText 6 = .ok (.iconst 0, 1) := by decide +kernel
theorem dX10_isText_7 : decode cX10_isText 7 = .ok (.putfield 167, 3) := by decide +kernel
theorem dX10_isText_10 : decode cX10_isText 10 = .ok (.iconst 1, 1) := by decide +kernel
theorem dX10_isText_11 : decode cX10_isText 11 = .ok (.istore_n 1, 1) := by decide +kernel
theorem dX10_isText_12 : decode cX10_isText 12 = .ok (.iload_n 1, 1) := by decide +kernel
theorem dX10_isText_13 : decode cX10_isText 13 = .ok (.ifCond .eq 32, 3) := by decide +kernel
theorem dX10_isText_16 : decode cX10_isText 16 = .ok (.aload_n 0, 1) := by decide +kernel
theorem dX10_isText_17 : decode cX10_isText 17 = .ok (.invokevirtual 180, 3) := by decide +kernel
theorem dX10_isText_20 : decode cX10_isText 20 = .ok (.ifCond .ne 5, 3) := by decide +kernel
theorem dX10_isText_23 : decode cX10_isText 23 = .ok (.iconst 0, 1) := by decide +kernel
theorem dX10_isText_24 : decode cX10_isText 24 = .ok (.ireturn, 1) := by decide +kernel
theorem dX10_isText_25 : decode cX10_isText 25 = .ok (.aload_n 0, 1) := by decide +kernel
theorem dX10_isText_26 : decode cX10_isText 26 = .ok (.dup, 1) := by decide +kernel
theorem dX10_isText_27 : decode cX10_isText 27 = .ok (.getfield 167, 3) := by decide +kernel
theorem dX10_isText_30 : decode cX10_isText 30 = .ok (.iconst 1, 1) := by decide +kernel
theorem dX10_isText_31 : decode cX10_isText 31 = .ok (.iadd, 1) := by decide +kernel
theorem dX10_isText_32 : decode cX10_isText 32 = .ok (.putfield 167, 3) := by decide +kernel
theorem dX10_isText_35 : decode cX10_isText 35 = .ok (.aload_n 0, 1) := by decide +kernel
theorem dX10_isText_36 : decode cX10_isText 36 = .ok (.bipush 59, 2) := by decide +kernel
theorem dX10_isText_38 : decode cX10_isText 38 = .ok (.invokevirtual 173, 3) := by decide +kernel
theorem dX10_isText_41 : decode cX10_isText 41 = .ok (.istore_n 1, 1) := by decide +kernel
theorem dX10_isText_42 : decode cX10_isText 42 = .ok (.goto (-30), 3) := by decide +kernel
theorem dX10_isText_45 : decode cX10_isText 45 = .ok (.aload_n 0, 1) := by decide +kernel
theorem dX10_isText_46 : decode cX10_isText 46 = .ok (.getfield 161, 3) := by decide +kernel
theorem dX10_isText_49 : decode cX10_isText 49 = .ok (.aload_n 0, 1) := by decide +kernel
theorem dX10_isText_50 : decode cX10_isText 50 = .ok (.getfield 148, 3) := by decide +kernel
theorem dX10_isText_53 : decode cX10_isText 53 = .ok (.if_icmp .ne 7, 3) := by decide +kernel
theorem dX10_isText_56 : decode cX10_isText 56 = .ok (.iconst 1, 1) := by decide +kernel
theorem dX10_isText_57 : decode cX10_isText 57 = .ok (.goto 4, 3) := by decide +kernel
theorem dX10_isText_60 : decode cX10_isText 60 = .ok (.iconst 0, 1) := by decide +kernel
theorem dX10_isText_61 : decode cX10_isText 61 = .ok (.ireturn, 1) := by decide +kernel
theorem dX10_fault_0 : decode cX10_fault 0 = .ok (.aload_n 0, 1) := by decide +kernel
theorem dX10_fault_1 : decode cX10_fault 1 = .ok (.invokevirtual 183, 3) := by decide +kernel
theorem dX10_fault_4 : decode cX10_fault 4 = .ok (.ifCond .eq 8, 3) := by decide +kernel
theorem dX10_fault_7 : decode cX10_fault 7 = .ok (.bipush (-6), 2) := by decide +kernel
theorem dX10_fault_9 : decode cX10_fault 9 = .ok (.goto 7, 3) := by decide +kernel
theorem dX10_fault_12 : decode cX10_fault 12 = .ok (.aload_n 0, 1) := by decide +kernel
theorem dX10_fault_13 : decode cX10_fault 13 = .ok (.getfield 161, 3) := by decide +kernel
theorem dX10_fault_16 : decode cX10_fault 16 = .ok (.ireturn, 1) := by decide +kernel
theorem dX10_comeOften_0 : decode cX10_comeOften 0 = .ok (.iconst 0, 1) := by decide +kernel
theorem dX10_comeOften_1 : decode cX10_comeOften 1 = .ok (.istore 4, 2) := by decide +kernel
theorem dX10_comeOften_3 : decode cX10_comeOften 3 = .ok (.iload 4, 2) := by decide +kernel
theorem dX10_comeOften_5 : decode cX10_comeOften 5 = .ok (.iload_n 3, 1) := by decide +kernel
theorem dX10_comeOften_6 : decode cX10_comeOften 6 = .ok (.if_icmp .ge 27, 3) := by decide +kernel
theorem dX10_comeOften_9 : decode cX10_comeOften 9 = .ok (.aload_n 0, 1) := by decide +kernel
theorem dX10_comeOften_10 : decode cX10_comeOften 10 = .ok (.iload_n 1, 1) := by decide +kernel
theorem dX10_comeOften_11 : decode cX10_comeOften 11 = .ok (.iload_n 2, 1) := by decide +kernel
theorem dX10_comeOften_12 : decode cX10_comeOften 12 = .ok (.invokevirtual 136, 3) := by decide +kernel
theorem dX10_comeOften_15 : decode cX10_comeOften 15 = .ok (.ifCond .eq 5, 3) := by decide +kernel
theorem dX10_comeOften_18 : decode cX10_comeOften 18 = .ok (.iconst 0, 1) := by decide +kernel
theorem dX10_comeOften_19 : decode cX10_comeOften 19 = .ok (.ireturn, 1) := by decide +kernel
theorem dX10_comeOften_20 : decode cX10_comeOften 20 = .ok (.aload_n 0, 1) := by decide +kernel
theorem dX10_comeOften_21 : decode cX10_comeOften 21 = .ok (.iload_n 1, 1) := by decide +kernel
theorem dX10_comeOften_22 : decode cX10_comeOften 22 = .ok (.iload_n 2, 1) := by decide +kernel
theorem dX10_comeOften_23 : decode cX10_comeOften 23 = .ok (.invokevirtual 139, 3) := by decide +kernel
theorem dX10_comeOften_26 : decode cX10_comeOften 26 = .ok (.pop, 1) := by decide +kernel
theorem dX10_comeOften_27 : decode cX10_comeOften 27 = .ok (.iinc 4 1, 3) := by decide +kernel
theorem dX10_comeOften_30 : decode cX10_comeOften 30 = .ok (.goto (-27), 3) := by decide +kernel
theorem dX10_comeOften_33 : decode cX10_comeOften 33 = .ok (.iconst 1, 1) := by decide +kernel
theorem dX10_comeOften_34 : decode cX10_comeOften 34 = .ok (.ireturn, 1) := by decide +kernel
theorem dX10_does_0 : decode cX10_does 0 = .ok (.aload_n 0, 1) := by decide +kernel
theorem dX10_does_1 : decode cX10_does 1 = .ok (.getfield 29, 3) := by decide +kernel
theorem dX10_does_4 : decode cX10_does 4 = .ok (.iconst 4, 1) := by decide +kernel
theorem dX10_does_5 : decode cX10_does 5 = .ok (.iload_n 1, 1) := by decide +kernel
theorem dX10_does_6 : decode cX10_does 6 = .ok (.imul, 1) := by decide +kernel
theorem dX10_does_7 : decode cX10_does 7 = .ok (.iaload, 1) := by decide +kernel
theorem dX10_does_8 : decode cX10_does 8 = .ok (.istore_n 2, 1) := by decide +kernel
theorem dX10_does_9 : decode cX10_does 9 = .ok (.aload_n 0, 1) := by decide +kernel
theorem dX10_does_10 : decode cX10_does 10 = .ok (.getfield 29, 3) := by decide +kernel
theorem dX10_does_13 : decode cX10_does 13 = .ok (.iconst 4, 1) := by decide +kernel
theorem dX10_does_14 : decode cX10_does 14 = .ok (.iload_n 1, 1) := by decide +kernel
theorem dX10_does_15 : decode cX10_does 15 = .ok (.imul, 1) := by decide +kernel
theorem dX10_does_16 : decode cX10_does 16 = .ok (.iconst 1, 1) := by decide +kernel
theorem dX10_does_17 : decode cX10_does 17 = .ok (.iadd, 1) := by decide +kernel
theorem dX10_does_18 : decode cX10_does 18 = .ok (.iaload, 1) := by decide +kernel
theorem dX10_does_19 : decode cX10_does 19 = .ok (.istore_n 3, 1) := by decide +kernel
theorem dX10_does_20 : decode cX10_does 20 = .ok (.iload_n 2, 1) := by decide +kernel
theorem dX10_does_21 : decode cX10_does 21 = .ok (.bipush 43, 2) := by decide +kernel
theorem dX10_does_23 : decode cX10_does 23 = .ok (.if_icmp .ne 29, 3) := by decide +kernel
theorem dX10_does_26 : decode cX10_does 26 = .ok (.aload_n 0, 1) := by decide +kernel
theorem dX10_does_27 : decode cX10_does 27 = .ok (.iload_n 3, 1) := by decide +kernel
theorem dX10_does_28 : decode cX10_does 28 = .ok (.aload_n 0, 1) := by decide +kernel
theorem dX10_does_29 : decode cX10_does 29 = .ok (.getfield 29, 3) := by decide +kernel
theorem dX10_does_32 : decode cX10_does 32 = .ok (.iconst 4, 1) := by decide +kernel
theorem dX10_does_33 : decode cX10_does 33 = .ok (.iload_n 1, 1) := by decide +kernel
theorem dX10_does_34 : decode cX10_does 34 = .ok (.imul, 1) := by decide +kernel
theorem dX10_does_35 : decode cX10_does 35 = .ok (.iconst 2, 1) := by decide +kernel
theorem dX10_does_36 : decode cX10_does 36 = .ok (.iadd, 1) := by decide +kernel
theorem dX10_does_37 : decode cX10_does 37 = .ok (.iaload, 1) := by decide +kernel
theorem dX10_does_38 : decode cX10_does 38 = .ok (.aload_n 0, 1) := by decide +kernel
theorem dX10_does_39 : decode cX10_does 39 = .ok (.getfield 29, 3) := by decide +kernel
theorem dX10_does_42 : decode cX10_does 42 = .ok (.iconst 4, 1) := by decide +kernel
theorem dX10_does_43 : decode cX10_does 43 = .ok (.iload_n 1, 1) := by decide +kernel
theorem dX10_does_44 : decode cX10_does 44 = .ok (.imul, 1) := by decide +kernel
theorem dX10_does_45 : decode cX10_does 45 = .ok (.iconst 3, 1) := by decide +kernel
theorem dX10_does_46 : decode cX10_does 46 = .ok (.iadd, 1) := by decide +kernel
theorem dX10_does_47 : decode cX10_does 47 = .ok (.iaload, 1) := by decide +kernel
theorem dX10_does_48 : decode cX10_does 48 = .ok (.invokevirtual 186, 3) := by decide +kernel
theorem dX10_does_51 : decode cX10_does 51 = .ok (.ireturn, 1) := by decide +kernel
theorem dX10_does_52 : decode cX10_does 52 = .ok (.iload_n 2, 1) := by decide +kernel
theorem dX10_does_53 : decode cX10_does 53 = .ok (.bipush 98, 2) := by decide +kernel
theorem dX10_does_55 : decode cX10_does 55 = .ok (.if_icmp .ne 7, 3) := by decide +kernel
theorem dX10_does_58 : decode cX10_does 58 = .ok (.iconst 0, 1) := by decide +kernel
theorem dX10_does_59 : decode cX10_does 59 = .ok (.goto 14, 3) := by decide +kernel
theorem dX10_does_62 : decode cX10_does 62 = .ok (.iload_n 2, 1) := by decide +kernel
theorem dX10_does_63 : decode cX10_does 63 = .ok (.bipush 99, 2) := by decide +kernel
theorem dX10_does_65 : decode cX10_does 65 = .ok (.if_icmp .ne 7, 3) := by decide +kernel
theorem dX10_does_68 : decode cX10_does 68 = .ok (.iconst 1, 1) := by decide +kernel
theorem dX10_does_69 : decode cX10_does 69 = .ok (.goto 4, 3) := by decide +kernel
theorem dX10_does_72 : decode cX10_does 72 = .ok (.iconst 2, 1) := by decide +kernel
theorem dX10_does_73 : decode cX10_does 73 = .ok (.istore 4, 2) := by decide +kernel
theorem dX10_does_75 : decode cX10_does 75 = .ok (.iload_n 2, 1) := by decide +kernel
theorem dX10_does_76 : decode cX10_does 76 = .ok (.bipush 45, 2) := by decide +kernel
theorem dX10_does_78 : decode cX10_does 78 = .ok (.if_icmp .ne 11, 3) := by decide +kernel
theorem dX10_does_81 : decode cX10_does 81 = .ok (.aload_n 0, 1) := by decide +kernel
theorem dX10_does_82 : decode cX10_does 82 = .ok (.iload_n 3, 1) := by decide +kernel
theorem dX10_does_83 : decode cX10_does 83 = .ok (.invokevirtual 142, 3) := by decide +kernel
theorem dX10_does_86 : decode cX10_does 86 = .ok (.goto 32, 3) := by decide +kernel
theorem dX10_does_89 : decode cX10_does 89 = .ok (.iload_n 2, 1) := by decide +kernel
theorem dX10_does_90 : decode cX10_does 90 = .ok (.bipush 97, 2) := by decide +kernel
theorem dX10_does_92 : decode cX10_does 92 = .ok (.if_icmp .ne 20, 3) := by decide +kernel
theorem dX10_does_95 : decode cX10_does 95 = .ok (.aload_n 0, 1) := by decide +kernel
theorem dX10_does_96 : decode cX10_does 96 = .ok (.getfield 7, 3) := by decide +kernel
theorem dX10_does_99 : decode cX10_does 99 = .ok (.iconst 0, 1) := by decide +kernel
theorem dX10_does_100 : decode cX10_does 100 = .ok (.iaload, 1) := by decide +kernel
theorem dX10_does_101 : decode cX10_does 101 = .ok (.ifCond .le 7, 3) := by decide +kernel
theorem dX10_does_104 : decode cX10_does 104 = .ok (.iconst 1, 1) := by decide +kernel
theorem dX10_does_105 : decode cX10_does 105 = .ok (.goto 13, 3) := by decide +kernel
theorem dX10_does_108 : decode cX10_does 108 = .ok (.iconst 0, 1) := by decide +kernel
theorem dX10_does_109 : decode cX10_does 109 = .ok (.goto 9, 3) := by decide +kernel
theorem dX10_does_112 : decode cX10_does 112 = .ok (.iload 4, 2) := by decide +kernel
theorem dX10_does_114 : decode cX10_does 114 = .ok (.iload_n 3, 1) := by decide +kernel
theorem dX10_does_115 : decode cX10_does 115 = .ok (.invokestatic 129, 3) := by decide +kernel
theorem dX10_does_118 : decode cX10_does 118 = .ok (.istore 5, 2) := by decide +kernel
theorem dX10_does_120 : decode cX10_does 120 = .ok (.iload 5, 2) := by decide +kernel
theorem dX10_does_122 : decode cX10_does 122 = .ok (.ifCond .eq 18, 3) := by decide +kernel
theorem dX10_does_125 : decode cX10_does 125 = .ok (.iload_n 2, 1) := by decide +kernel
theorem dX10_does_126 : decode cX10_does 126 = .ok (.bipush 45, 2) := by decide +kernel
theorem dX10_does_128 : decode cX10_does 128 = .ok (.if_icmp .ne 12, 3) := by decide +kernel
theorem dX10_does_131 : decode cX10_does 131 = .ok (.aload_n 0, 1) := by decide +kernel
theorem dX10_does_132 : decode cX10_does 132 = .ok (.iload_n 3, 1) := by decide +kernel
theorem dX10_does_133 : decode cX10_does 133 = .ok (.invokevirtual 145, 3) := by decide +kernel
theorem dX10_does_136 : decode cX10_does 136 = .ok (.pop, 1) := by decide +kernel
theorem dX10_does_137 : decode cX10_does 137 = .ok (.goto 38, 3) := by decide +kernel
theorem dX10_does_140 : decode cX10_does 140 = .ok (.iload 5, 2) := by decide +kernel
theorem dX10_does_142 : decode cX10_does 142 = .ok (.ifCond .eq 20, 3) := by decide +kernel
theorem dX10_does_145 : decode cX10_does 145 = .ok (.iload_n 2, 1) := by decide +kernel
theorem dX10_does_146 : decode cX10_does 146 = .ok (.bipush 97, 2) := by decide +kernel
theorem dX10_does_148 : decode cX10_does 148 = .ok (.if_icmp .ne 14, 3) := by decide +kernel
theorem dX10_does_151 : decode cX10_does 151 = .ok (.aload_n 0, 1) := by decide +kernel
theorem dX10_does_152 : decode cX10_does 152 = .ok (.aload_n 0, 1) := by decide +kernel
theorem dX10_does_153 : decode cX10_does 153 = .ok (.getfield 7, 3) := by decide +kernel
theorem dX10_does_156 : decode cX10_does 156 = .ok (.invokevirtual 126, 3) := by decide +kernel
theorem dX10_does_159 : decode cX10_does 159 = .ok (.goto 16, 3) := by decide +kernel
theorem dX10_does_162 : decode cX10_does 162 = .ok (.iload 5, 2) := by decide +kernel
theorem dX10_does_164 : decode cX10_does 164 = .ok (.ifCond .eq 11, 3) := by decide +kernel
theorem dX10_does_167 : decode cX10_does 167 = .ok (.aload_n 0, 1) := by decide +kernel
theorem dX10_does_168 : decode cX10_does 168 = .ok (.iload 4, 2) := by decide +kernel
theorem dX10_does_170 : decode cX10_does 170 = .ok (.iload_n 3, 1) := by decide +kernel
theorem dX10_does_171 : decode cX10_does 171 = .ok (.invokevirtual 132, 3) := by decide +kernel
theorem dX10_does_174 : decode cX10_does 174 = .ok (.pop, 1) := by decide +kernel
theorem dX10_does_175 : decode cX10_does 175 = .ok (.iload 5, 2) := by decide +kernel
theorem dX10_does_177 : decode cX10_does 177 = .ok (.ireturn, 1) := by decide +kernel
theorem dX10_carryOut_0 : decode cX10_carryOut 0 = .ok (.aload_n 0, 1) := by decide +kernel
theorem dX10_carryOut_1 : decode cX10_carryOut 1 = .ok (.invokevirtual 183, 3) := by decide +kernel
theorem dX10_carryOut_4 : decode cX10_carryOut 4 = .ok (.ifCond .ne 6, 3) := by decide +kernel
theorem dX10_carryOut_7 : decode cX10_carryOut 7 = .ok (.bipush (-3), 2) := by decide +kernel
theorem dX10_carryOut_9 : decode cX10_carryOut 9 = .ok (.ireturn, 1) := by decide +kernel
theorem dX10_carryOut_10 : decode cX10_carryOut 10 = .ok (.aload_n 0, 1) := by decide +kernel
theorem dX10_carryOut_11 : decode cX10_carryOut 11 = .ok (.invokevirtual 47, 3) := by decide +kernel
theorem dX10_carryOut_14 : decode cX10_carryOut 14 = .ok (.aload_n 0, 1) := by decide +kernel
theorem dX10_carryOut_15 : decode cX10_carryOut 15 = .ok (.iconst 0, 1) := by decide +kernel
theorem dX10_carryOut_16 : decode cX10_carryOut 16 = .ok (.putfield 148, 3) := by decide +kernel
theorem dX10_carryOut_19 : decode cX10_carryOut 19 = .ok (.iconst 0, 1) := by decide +kernel
theorem dX10_carryOut_20 : decode cX10_carryOut 20 = .ok (.istore_n 1, 1) := by decide +kernel
theorem dX10_carryOut_21 : decode cX10_carryOut 21 = .ok (.iload_n 1, 1) := by decide +kernel
theorem dX10_carryOut_22 : decode cX10_carryOut 22 = .ok (.aload_n 0, 1) := by decide +kernel
theorem dX10_carryOut_23 : decode cX10_carryOut 23 = .ok (.getfield 167, 3) := by decide +kernel
theorem dX10_carryOut_26 : decode cX10_carryOut 26 = .ok (.if_icmp .ge 17, 3) := by decide +kernel
theorem dX10_carryOut_29 : decode cX10_carryOut 29 = .ok (.aload_n 0, 1) := by decide +kernel
theorem dX10_carryOut_30 : decode cX10_carryOut 30 = .ok (.iload_n 1, 1) := by decide +kernel
theorem dX10_carryOut_31 : decode cX10_carryOut 31 = .ok (.invokevirtual 189, 3) := by decide +kernel
theorem dX10_carryOut_34 : decode cX10_carryOut 34 = .ok (.ifCond .eq 9, 3) := by decide +kernel
theorem dX10_carryOut_37 : decode cX10_carryOut 37 = .ok (.iinc 1 1, 3) := by decide +kernel
theorem dX10_carryOut_40 : decode cX10_carryOut 40 = .ok (.goto (-19), 3) := by decide +kernel
theorem dX10_carryOut_43 : decode cX10_carryOut 43 = .ok (.iload_n 1, 1) := by decide +kernel
theorem dX10_carryOut_44 : decode cX10_carryOut 44 = .ok (.ireturn, 1) := by decide +kernel
theorem dJxe99ae_isNaN_b9ae7_0 : decode cJxe99ae_isNaN_b9ae7 0 = .ok (.dload_n 0, 1) := by decide +kernel
theorem dJxe99ae_isNaN_b9ae7_1 : decode cJxe99ae_isNaN_b9ae7 1 = .ok (.dload_n 0, 1) := by decide +kernel
theorem dJxe99ae_isNaN_b9ae7_2 : decode cJxe99ae_isNaN_b9ae7 2 = .ok (.dcmp .l, 1) := by decide +kernel
theorem dJxe99ae_isNaN_b9ae7_3 : decode cJxe99ae_isNaN_b9ae7 3 = .ok (.ifCond .eq 7, 3) := by decide +kernel
theorem dJxe99ae_isNaN_b9ae7_6 : decode cJxe99ae_isNaN_b9ae7 6 = .ok (.iconst 1, 1) := by decide +kernel
theorem dJxe99ae_isNaN_b9ae7_7 : decode cJxe99ae_isNaN_b9ae7 7 = .ok (.goto 4, 3) := by decide +kernel
theorem dJxe99ae_isNaN_b9ae7_10 : decode cJxe99ae_isNaN_b9ae7 10 = .ok (.iconst 0, 1) := by decide +kernel
theorem dJxe99ae_isNaN_b9ae7_11 : decode cJxe99ae_isNaN_b9ae7 11 = .ok (.ireturn, 1) := by decide +kernel
theorem dJxe99ae_doubleToLongBits_ccdee_0 : decode cJxe99ae_doubleToLongBits_ccdee 0 = .ok (.dload_n 0, 1) := by decide +kernel
theorem dJxe99ae_doubleToLongBits_ccdee_1 : decode cJxe99ae_doubleToLongBits_ccdee 1 = .ok (.invokestatic 122, 3) := by decide +kernel
theorem dJxe99ae_doubleToLongBits_ccdee_4 : decode cJxe99ae_doubleToLongBits_ccdee 4 = .ok (.ifCond .ne 8, 3) := by decide +kernel
theorem dJxe99ae_doubleToLongBits_ccdee_7 : decode cJxe99ae_doubleToLongBits_ccdee 7 = .ok (.dload_n 0, 1) := by decide +kernel
theorem dJxe99ae_doubleToLongBits_ccdee_8 : decode cJxe99ae_doubleToLongBits_ccdee 8 = .ok (.invokestatic 134, 3) := by decide +kernel
theorem dJxe99ae_doubleToLongBits_ccdee_11 : decode cJxe99ae_doubleToLongBits_ccdee 11 = .ok (.lreturn, 1) := by decide +kernel
theorem dJxe99ae_doubleToLongBits_ccdee_12 : decode cJxe99ae_doubleToLongBits_ccdee 12 = .ok (.ldc2_w 137, 3) := by decide +kernel
theorem dJxe99ae_doubleToLongBits_ccdee_15 : decode cJxe99ae_doubleToLongBits_ccdee 15 = .ok (.lreturn, 1) := by decide +kernel
theorem dJxf58ca_isNaN_12338_0 : decode cJxf58ca_isNaN_12338 0 = .ok (.fload_n 0, 1) := by decide +kernel
theorem dJxf58ca_isNaN_12338_1 : decode cJxf58ca_isNaN_12338 1 = .ok (.fload_n 0, 1) := by decide +kernel
theorem dJxf58ca_isNaN_12338_2 : decode cJxf58ca_isNaN_12338 2 = .ok (.fcmp .l, 1) := by decide +kernel
theorem dJxf58ca_isNaN_12338_3 : decode cJxf58ca_isNaN_12338 3 = .ok (.ifCond .eq 7, 3) := by decide +kernel
theorem dJxf58ca_isNaN_12338_6 : decode cJxf58ca_isNaN_12338 6 = .ok (.iconst 1, 1) := by decide +kernel
theorem dJxf58ca_isNaN_12338_7 : decode cJxf58ca_isNaN_12338 7 = .ok (.goto 4, 3) := by decide +kernel
theorem dJxf58ca_isNaN_12338_10 : decode cJxf58ca_isNaN_12338 10 = .ok (.iconst 0, 1) := by decide +kernel
theorem dJxf58ca_isNaN_12338_11 : decode cJxf58ca_isNaN_12338 11 = .ok (.ireturn, 1) := by decide +kernel
theorem dJxf58ca_floatToIntBits_5c35a_0 : decode cJxf58ca_floatToIntBits_5c35a 0 = .ok (.fload_n 0, 1) := by decide +kernel
theorem dJxf58ca_floatToIntBits_5c35a_1 : decode cJxf58ca_floatToIntBits_5c35a 1 = .ok (.invokestatic 59, 3) := by decide +kernel
theorem dJxf58ca_floatToIntBits_5c35a_4 : decode cJxf58ca_floatToIntBits_5c35a 4 = .ok (.ifCond .ne 8, 3) := by decide +kernel
theorem dJxf58ca_floatToIntBits_5c35a_7 : decode cJxf58ca_floatToIntBits_5c35a 7 = .ok (.fload_n 0, 1) := by decide +kernel
theorem dJxf58ca_floatToIntBits_5c35a_8 : decode cJxf58ca_floatToIntBits_5c35a 8 = .ok (.invokestatic 74, 3) := by decide +kernel
theorem dJxf58ca_floatToIntBits_5c35a_11 : decode cJxf58ca_floatToIntBits_5c35a 11 = .ok (.ireturn, 1) := by decide +kernel
theorem dJxf58ca_floatToIntBits_5c35a_12 : decode cJxf58ca_floatToIntBits_5c35a 12 = .ok (.ldc 77, 2) := by decide +kernel
theorem dJxf58ca_floatToIntBits_5c35a_14 : decode cJxf58ca_floatToIntBits_5c35a 14 = .ok (.ireturn, 1) := by decide +kernel
theorem dJ9_abs_0f7a4_0 : decode cJ9_abs_0f7a4 0 = .ok (.iload_n 0, 1) := by decide +kernel
theorem dJ9_abs_0f7a4_1 : decode cJ9_abs_0f7a4 1 = .ok (.ifCond .ge 8, 3) := by decide +kernel
theorem dJ9_abs_0f7a4_4 : decode cJ9_abs_0f7a4 4 = .ok (.iload_n 0, 1) := by decide +kernel
theorem dJ9_abs_0f7a4_5 : decode cJ9_abs_0f7a4 5 = .ok (.ineg, 1) := by decide +kernel
theorem dJ9_abs_0f7a4_6 : decode cJ9_abs_0f7a4 6 = .ok (.goto 4, 3) := by decide +kernel
theorem dJ9_abs_0f7a4_9 : decode cJ9_abs_0f7a4 9 = .ok (.iload_n 0, 1) := by decide +kernel
theorem dJ9_abs_0f7a4_10 : decode cJ9_abs_0f7a4 10 = .ok (.ireturn, 1) := by decide +kernel
theorem dJ9_max_7cf53_0 : decode cJ9_max_7cf53 0 = .ok (.iload_n 0, 1) := by decide +kernel
theorem dJ9_max_7cf53_1 : decode cJ9_max_7cf53 1 = .ok (.iload_n 1, 1) := by decide +kernel
theorem dJ9_max_7cf53_2 : decode cJ9_max_7cf53 2 = .ok (.if_icmp .lt 7, 3) := by decide +kernel
theorem dJ9_max_7cf53_5 : decode cJ9_max_7cf53 5 = .ok (.iload_n 0, 1) := by decide +kernel
theorem dJ9_max_7cf53_6 : decode cJ9_max_7cf53 6 = .ok (.goto 4, 3) := by decide +kernel
theorem dJ9_max_7cf53_9 : decode cJ9_max_7cf53 9 = .ok (.iload_n 1, 1) := by decide +kernel
theorem dJ9_max_7cf53_10 : decode cJ9_max_7cf53 10 = .ok (.ireturn, 1) := by decide +kernel
theorem dJ9_min_7cf53_0 : decode cJ9_min_7cf53 0 = .ok (.iload_n 0, 1) := by decide +kernel
theorem dJ9_min_7cf53_1 : decode cJ9_min_7cf53 1 = .ok (.iload_n 1, 1) := by decide +kernel
theorem dJ9_min_7cf53_2 : decode cJ9_min_7cf53 2 = .ok (.if_icmp .gt 7, 3) := by decide +kernel
theorem dJ9_min_7cf53_5 : decode cJ9_min_7cf53 5 = .ok (.iload_n 0, 1) := by decide +kernel
theorem dJ9_min_7cf53_6 : decode cJ9_min_7cf53 6 = .ok (.goto 4, 3) := by decide +kernel
theorem dJ9_min_7cf53_9 : decode cJ9_min_7cf53 9 = .ok (.iload_n 1, 1) := by decide +kernel
theorem dJ9_min_7cf53_10 : decode cJ9_min_7cf53 10 = .ok (.ireturn, 1) := by decide +kernel
theorem dL_law_0 : decode cL_law 0 = .ok (.new 7, 3) := by decide +kernel
theorem dL_law_3 : decode cL_law 3 = .ok (.dup, 1) := by decide +kernel
theorem dL_law_4 : decode cL_law 4 = .ok (.invokespecial 9, 3) := by decide +kernel
theorem dL_law_7 : decode cL_law 7 = .ok (.astore_n 1, 1) := by decide +kernel
theorem dL_law_8 : decode cL_law 8 = .ok (.new 10, 3) := by decide +kernel
theorem dL_law_11 : decode cL_law 11 = .ok (.dup, 1) := by decide +kernel
theorem dL_law_12 : decode cL_law 12 = .ok (.invokespecial 12, 3) := by decide +kernel
theorem dL_law_15 : decode cL_law 15 = .ok (.astore_n 2, 1) := by decide +kernel
theorem dL_law_16 : decode cL_law 16 = .ok (.iconst 0, 1) := by decide +kernel
theorem dL_law_17 : decode cL_law 17 = .ok (.istore_n 3, 1) := by decide +kernel
theorem dL_law_18 : decode cL_law 18 = .ok (.iload_n 3, 1) := by decide +kernel
theorem dL_law_19 : decode cL_law 19 = .ok (.aload_n 0, 1) := by decide +kernel
theorem dL_law_20 : decode cL_law 20 = .ok (.arraylength, 1) := by decide +kernel
theorem dL_law_21 : decode cL_law 21 = .ok (.bipush 6, 2) := by decide +kernel
theorem dL_law_23 : decode cL_law 23 = .ok (.isub, 1) := by decide +kernel
theorem dL_law_24 : decode cL_law 24 = .ok (.if_icmp .gt 795, 3) := by decide +kernel
theorem dL_law_27 : decode cL_law 27 = .ok (.aload_n 0, 1) := by decide +kernel
theorem dL_law_28 : decode cL_law 28 = .ok (.iload_n 3, 1) := by decide +kernel
theorem dL_law_29 : decode cL_law 29 = .ok (.iaload, 1) := by decide +kernel
theorem dL_law_30 : decode cL_law 30 = .ok (.bipush 31, 2) := by decide +kernel
theorem dL_law_32 : decode cL_law 32 = .ok (.iand, 1) := by decide +kernel
theorem dL_law_33 : decode cL_law 33 = .ok (.tableswitch 780 0 21 #[103, 136, 169, 192, 205, 238, 281, 324, 357, 380, 433, 496, 539, 563, 596, 629, 682, 695, 708, 721, 734, 757], 103) := by decide +kernel
theorem dL_law_136 : decode cL_law 136 = .ok (.aload_n 1, 1) := by decide +kernel
theorem dL_law_137 : decode cL_law 137 = .ok (.aload_n 0, 1) := by decide +kernel
theorem dL_law_138 : decode cL_law 138 = .ok (.iload_n 3, 1) := by decide +kernel
theorem dL_law_139 : decode cL_law 139 = .ok (.iconst 1, 1) := by decide +kernel
theorem dL_law_140 : decode cL_law 140 = .ok (.iadd, 1) := by decide +kernel
theorem dL_law_141 : decode cL_law 141 = .ok (.iaload, 1) := by decide +kernel
theorem dL_law_142 : decode cL_law 142 = .ok (.aload_n 0, 1) := by decide +kernel
theorem dL_law_143 : decode cL_law 143 = .ok (.iload_n 3, 1) := by decide +kernel
theorem dL_law_144 : decode cL_law 144 = .ok (.iconst 2, 1) := by decide +kernel
theorem dL_law_145 : decode cL_law 145 = .ok (.iadd, 1) := by decide +kernel
theorem dL_law_146 : decode cL_law 146 = .ok (.iaload, 1) := by decide +kernel
theorem dL_law_147 : decode cL_law 147 = .ok (.invokevirtual 13, 3) := by decide +kernel
theorem dL_law_150 : decode cL_law 150 = .ok (.aload_n 2, 1) := by decide +kernel
theorem dL_law_151 : decode cL_law 151 = .ok (.aload_n 0, 1) := by decide +kernel
theorem dL_law_152 : decode cL_law 152 = .ok (.iload_n 3, 1) := by decide +kernel
theorem dL_law_153 : decode cL_law 153 = .ok (.iconst 1, 1) := by decide +kernel
theorem dL_law_154 : decode cL_law 154 = .ok (.iadd, 1) := by decide +kernel
theorem dL_law_155 : decode cL_law 155 = .ok (.iaload, 1) := by decide +kernel
theorem dL_law_156 : decode cL_law 156 = .ok (.aload_n 0, 1) := by decide +kernel
theorem dL_law_157 : decode cL_law 157 = .ok (.iload_n 3, 1) := by decide +kernel
theorem dL_law_158 : decode cL_law 158 = .ok (.iconst 2, 1) := by decide +kernel
theorem dL_law_159 : decode cL_law 159 = .ok (.iadd, 1) := by decide +kernel
theorem dL_law_160 : decode cL_law 160 = .ok (.iaload, 1) := by decide +kernel
theorem dL_law_161 : decode cL_law 161 = .ok (.invokevirtual 17, 3) := by decide +kernel
theorem dL_law_164 : decode cL_law 164 = .ok (.if_icmp .eq 649, 3) := by decide +kernel
theorem dL_law_167 : decode cL_law 167 = .ok (.iconst 0, 1) := by decide +kernel
theorem dL_law_168 : decode cL_law 168 = .ok (.ireturn, 1) := by decide +kernel
theorem dL_law_169 : decode cL_law 169 = .ok (.aload_n 1, 1) := by decide +kernel
theorem dL_law_170 : decode cL_law 170 = .ok (.aload_n 0, 1) := by decide +kernel
theorem dL_law_171 : decode cL_law 171 = .ok (.iload_n 3, 1) := by decide +kernel
theorem dL_law_172 : decode cL_law 172 = .ok (.iconst 1, 1) := by decide +kernel
theorem dL_law_173 : decode cL_law 173 = .ok (.iadd, 1) := by decide +kernel
theorem dL_law_174 : decode cL_law 174 = .ok (.iaload, 1) := by decide +kernel
theorem dL_law_175 : decode cL_law 175 = .ok (.aload_n 0, 1) := by decide +kernel
theorem dL_law_176 : decode cL_law 176 = .ok (.iload_n 3, 1) := by decide +kernel
theorem dL_law_177 : decode cL_law 177 = .ok (.iconst 2, 1) := by decide +kernel
theorem dL_law_178 : decode cL_law 178 = .ok (.iadd, 1) := by decide +kernel
theorem dL_law_179 : decode cL_law 179 = .ok (.iaload, 1) := by decide +kernel
theorem dL_law_180 : decode cL_law 180 = .ok (.invokevirtual 18, 3) := by decide +kernel
theorem dL_law_183 : decode cL_law 183 = .ok (.aload_n 2, 1) := by decide +kernel
theorem dL_law_184 : decode cL_law 184 = .ok (.aload_n 0, 1) := by decide +kernel
theorem dL_law_185 : decode cL_law 185 = .ok (.iload_n 3, 1) := by decide +kernel
theorem dL_law_186 : decode cL_law 186 = .ok (.iconst 1, 1) := by decide +kernel
theorem dL_law_187 : decode cL_law 187 = .ok (.iadd, 1) := by decide +kernel
theorem dL_law_188 : decode cL_law 188 = .ok (.iaload, 1) := by decide +kernel
theorem dL_law_189 : decode cL_law 189 = .ok (.aload_n 0, 1) := by decide +kernel
theorem dL_law_190 : decode cL_law 190 = .ok (.iload_n 3, 1) := by decide +kernel
theorem dL_law_191 : decode cL_law 191 = .ok (.iconst 2, 1) := by decide +kernel
theorem dL_law_192 : decode cL_law 192 = .ok (.iadd, 1) := by decide +kernel
theorem dL_law_193 : decode cL_law 193 = .ok (.iaload, 1) := by decide +kernel
theorem dL_law_194 : decode cL_law 194 = .ok (.invokevirtual 21, 3) := by decide +kernel
theorem dL_law_197 : decode cL_law 197 = .ok (.if_icmp .eq 616, 3) := by decide +kernel
theorem dL_law_200 : decode cL_law 200 = .ok (.iconst 0, 1) := by decide +kernel
theorem dL_law_201 : decode cL_law 201 = .ok (.ireturn, 1) := by decide +kernel
theorem dL_law_202 : decode cL_law 202 = .ok (.aload_n 1, 1) := by decide +kernel
theorem dL_law_203 : decode cL_law 203 = .ok (.aload_n 0, 1) := by decide +kernel
theorem dL_law_204 : decode cL_law 204 = .ok (.iload_n 3, 1) := by decide +kernel
theorem dL_law_205 : decode cL_law 205 = .ok (.iconst 1, 1) := by decide +kernel
theorem dL_law_206 : decode cL_law 206 = .ok (.iadd, 1) := by decide +kernel
theorem dL_law_207 : decode cL_law 207 = .ok (.iaload, 1) := by decide +kernel
theorem dL_law_208 : decode cL_law 208 = .ok (.invokevirtual 22, 3) := by decide +kernel
theorem dL_law_211 : decode cL_law 211 = .ok (.aload_n 2, 1) := by decide +kernel
theorem dL_law_212 : decode cL_law 212 = .ok (.aload_n 0, 1) := by decide +kernel
theorem dL_law_213 : decode cL_law 213 = .ok (.iload_n 3, 1) := by decide +kernel
theorem dL_law_214 : decode cL_law 214 = .ok (.iconst 1, 1) := by decide +kernel
theorem dL_law_215 : decode cL_law 215 = .ok (.iadd, 1) := by decide +kernel
theorem dL_law_216 : decode cL_law 216 = .ok (.iaload, 1) := by decide +kernel
theorem dL_law_217 : decode cL_law 217 = .ok (.invokevirtual 26, 3) := by decide +kernel
theorem dL_law_220 : decode cL_law 220 = .ok (.if_icmp .eq 593, 3) := by decide +kernel
theorem dL_law_223 : decode cL_law 223 = .ok (.iconst 0, 1) := by decide +kernel
theorem dL_law_224 : decode cL_law 224 = .ok (.ireturn, 1) := by decide +kernel
theorem dL_law_225 : decode cL_law 225 = .ok (.aload_n 1, 1) := by decide +kernel
theorem dL_law_226 : decode cL_law 226 = .ok (.invokevirtual 27, 3) := by decide +kernel
theorem dL_law_229 : decode cL_law 229 = .ok (.aload_n 2, 1) := by decide +kernel
theorem dL_law_230 : decode cL_law 230 = .ok (.invokevirtual 31, 3) := by decide +kernel
theorem dL_law_233 : decode cL_law 233 = .ok (.if_icmp .eq 580, 3) := by decide +kernel
theorem dL_law_236 : decode cL_law 236 = .ok (.iconst 0, 1) := by decide +kernel
theorem dL_law_237 : decode cL_law 237 = .ok (.ireturn, 1) := by decide +kernel
theorem dL_law_238 : decode cL_law 238 = .ok (.aload_n 1, 1) := by decide +kernel
theorem dL_law_239 : decode cL_law 239 = .ok (.aload_n 0, 1) := by decide +kernel
theorem dL_law_240 : decode cL_law 240 = .ok (.iload_n 3, 1) := by decide +kernel
theorem dL_law_241 : decode cL_law 241 = .ok (.iconst 1, 1) := by decide +kernel
theorem dL_law_242 : decode cL_law 242 = .ok (.iadd, 1) := by decide +kernel
theorem dL_law_243 : decode cL_law 243 = .ok (.iaload, 1) := by decide +kernel
theorem dL_law_244 : decode cL_law 244 = .ok (.aload_n 0, 1) := by decide +kernel
theorem dL_law_245 : decode cL_law 245 = .ok (.iload_n 3, 1) := by decide +kernel
theorem dL_law_246 : decode cL_law 246 = .ok (.iconst 2, 1) := by decide +kernel
theorem dL_law_247 : decode cL_law 247 = .ok (.iadd, 1) := by decide +kernel
theorem dL_law_248 : decode cL_law 248 = .ok (.iaload, 1) := by decide +kernel
theorem dL_law_249 : decode cL_law 249 = .ok (.invokevirtual 32, 3) := by decide +kernel
theorem dL_law_252 : decode cL_law 252 = .ok (.aload_n 2, 1) := by decide +kernel
theorem dL_law_253 : decode cL_law 253 = .ok (.aload_n 0, 1) := by decide +kernel
theorem dL_law_254 : decode cL_law 254 = .ok (.iload_n 3, 1) := by decide +kernel
theorem dL_law_255 : decode cL_law 255 = .ok (.iconst 1, 1) := by decide +kernel
theorem dL_law_256 : decode cL_law 256 = .ok (.iadd, 1) := by decide +kernel
theorem dL_law_257 : decode cL_law 257 = .ok (.iaload, 1) := by decide +kernel
theorem dL_law_258 : decode cL_law 258 = .ok (.aload_n 0, 1) := by decide +kernel
theorem dL_law_259 : decode cL_law 259 = .ok (.iload_n 3, 1) := by decide +kernel
theorem dL_law_260 : decode cL_law 260 = .ok (.iconst 2, 1) := by decide +kernel
theorem dL_law_261 : decode cL_law 261 = .ok (.iadd, 1) := by decide +kernel
theorem dL_law_262 : decode cL_law 262 = .ok (.iaload, 1) := by decide +kernel
theorem dL_law_263 : decode cL_law 263 = .ok (.invokevirtual 35, 3) := by decide +kernel
theorem dL_law_266 : decode cL_law 266 = .ok (.if_icmp .eq 547, 3) := by decide +kernel
theorem dL_law_269 : decode cL_law 269 = .ok (.iconst 0, 1) := by decide +kernel
theorem dL_law_270 : decode cL_law 270 = .ok (.ireturn, 1) := by decide +kernel
theorem dL_law_271 : decode cL_law 271 = .ok (.aload_n 1, 1) := by decide +kernel
theorem dL_law_272 : decode cL_law 272 = .ok (.aload_n 0, 1) := by decide +kernel
theorem dL_law_273 : decode cL_law 273 = .ok (.iload_n 3, 1) := by decide +kernel
theorem dL_law_274 : decode cL_law 274 = .ok (.iconst 1, 1) := by decide +kernel
theorem dL_law_275 : decode cL_law 275 = .ok (.iadd, 1) := by decide +kernel
theorem dL_law_276 : decode cL_law 276 = .ok (.iaload, 1) := by decide +kernel
theorem dL_law_277 : decode cL_law 277 = .ok (.aload_n 0, 1) := by decide +kernel
theorem dL_law_278 : decode cL_law 278 = .ok (.iload_n 3, 1) := by decide +kernel
theorem dL_law_279 : decode cL_law 279 = .ok (.iconst 2, 1) := by decide +kernel
theorem dL_law_280 : decode cL_law 280 = .ok (.iadd, 1) := by decide +kernel
theorem dL_law_281 : decode cL_law 281 = .ok (.iaload, 1) := by decide +kernel
theorem dL_law_282 : decode cL_law 282 = .ok (.aload_n 0, 1) := by decide +kernel
theorem dL_law_283 : decode cL_law 283 = .ok (.iload_n 3, 1) := by decide +kernel
theorem dL_law_284 : decode cL_law 284 = .ok (.iconst 3, 1) := by decide +kernel
theorem dL_law_285 : decode cL_law 285 = .ok (.iadd, 1) := by decide +kernel
theorem dL_law_286 : decode cL_law 286 = .ok (.iaload, 1) := by decide +kernel
theorem dL_law_287 : decode cL_law 287 = .ok (.invokevirtual 36, 3) := by decide +kernel
theorem dL_law_290 : decode cL_law 290 = .ok (.aload_n 2, 1) := by decide +kernel
theorem dL_law_291 : decode cL_law 291 = .ok (.aload_n 0, 1) := by decide +kernel
theorem dL_law_292 : decode cL_law 292 = .ok (.iload_n 3, 1) := by decide +kernel
theorem dL_law_293 : decode cL_law 293 = .ok (.iconst 1, 1) := by decide +kernel
theorem dL_law_294 : decode cL_law 294 = .ok (.iadd, 1) := by decide +kernel
theorem dL_law_295 : decode cL_law 295 = .ok (.iaload, 1) := by decide +kernel
theorem dL_law_296 : decode cL_law 296 = .ok (.aload_n 0, 1) := by decide +kernel
theorem dL_law_297 : decode cL_law 297 = .ok (.iload_n 3, 1) := by decide +kernel
theorem dL_law_298 : decode cL_law 298 = .ok (.iconst 2, 1) := by decide +kernel
theorem dL_law_299 : decode cL_law 299 = .ok (.iadd, 1) := by decide +kernel
theorem dL_law_300 : decode cL_law 300 = .ok (.iaload, 1) := by decide +kernel
theorem dL_law_301 : decode cL_law 301 = .ok (.aload_n 0, 1) := by decide +kernel
theorem dL_law_302 : decode cL_law 302 = .ok (.iload_n 3, 1) := by decide +kernel
theorem dL_law_303 : decode cL_law 303 = .ok (.iconst 3, 1) := by decide +kernel
theorem dL_law_304 : decode cL_law 304 = .ok (.iadd, 1) := by decide +kernel
theorem dL_law_305 : decode cL_law 305 = .ok (.iaload, 1) := by decide +kernel
theorem dL_law_306 : decode cL_law 306 = .ok (.invokevirtual 40, 3) := by decide +kernel
theorem dL_law_309 : decode cL_law 309 = .ok (.if_icmp .eq 504, 3) := by decide +kernel
theorem dL_law_312 : decode cL_law 312 = .ok (.iconst 0, 1) := by decide +kernel
theorem dL_law_313 : decode cL_law 313 = .ok (.ireturn, 1) := by decide +kernel
theorem dL_law_314 : decode cL_law 314 = .ok (.aload_n 1, 1) := by decide +kernel
theorem dL_law_315 : decode cL_law 315 = .ok (.aload_n 0, 1) := by decide +kernel
theorem dL_law_316 : decode cL_law 316 = .ok (.iload_n 3, 1) := by decide +kernel
theorem dL_law_317 : decode cL_law 317 = .ok (.iconst 1, 1) := by decide +kernel
theorem dL_law_318 : decode cL_law 318 = .ok (.iadd, 1) := by decide +kernel
theorem dL_law_319 : decode cL_law 319 = .ok (.iaload, 1) := by decide +kernel
theorem dL_law_320 : decode cL_law 320 = .ok (.aload_n 0, 1) := by decide +kernel
theorem dL_law_321 : decode cL_law 321 = .ok (.iload_n 3, 1) := by decide +kernel
theorem dL_law_322 : decode cL_law 322 = .ok (.iconst 2, 1) := by decide +kernel
theorem dL_law_323 : decode cL_law 323 = .ok (.iadd, 1) := by decide +kernel
theorem dL_law_324 : decode cL_law 324 = .ok (.iaload, 1) := by decide +kernel
theorem dL_law_325 : decode cL_law 325 = .ok (.aload_n 0, 1) := by decide +kernel
theorem dL_law_326 : decode cL_law 326 = .ok (.iload_n 3, 1) := by decide +kernel
theorem dL_law_327 : decode cL_law 327 = .ok (.iconst 3, 1) := by decide +kernel
theorem dL_law_328 : decode cL_law 328 = .ok (.iadd, 1) := by decide +kernel
theorem dL_law_329 : decode cL_law 329 = .ok (.iaload, 1) := by decide +kernel
theorem dL_law_330 : decode cL_law 330 = .ok (.invokevirtual 41, 3) := by decide +kernel
theorem dL_law_333 : decode cL_law 333 = .ok (.aload_n 2, 1) := by decide +kernel
theorem dL_law_334 : decode cL_law 334 = .ok (.aload_n 0, 1) := by decide +kernel
theorem dL_law_335 : decode cL_law 335 = .ok (.iload_n 3, 1) := by decide +kernel
theorem dL_law_336 : decode cL_law 336 = .ok (.iconst 1, 1) := by decide +kernel
theorem dL_law_337 : decode cL_law 337 = .ok (.iadd, 1) := by decide +kernel
theorem dL_law_338 : decode cL_law 338 = .ok (.iaload, 1) := by decide +kernel
theorem dL_law_339 : decode cL_law 339 = .ok (.aload_n 0, 1) := by decide +kernel
theorem dL_law_340 : decode cL_law 340 = .ok (.iload_n 3, 1) := by decide +kernel
theorem dL_law_341 : decode cL_law 341 = .ok (.iconst 2, 1) := by decide +kernel
theorem dL_law_342 : decode cL_law 342 = .ok (.iadd, 1) := by decide +kernel
theorem dL_law_343 : decode cL_law 343 = .ok (.iaload, 1) := by decide +kernel
theorem dL_law_344 : decode cL_law 344 = .ok (.aload_n 0, 1) := by decide +kernel
theorem dL_law_345 : decode cL_law 345 = .ok (.iload_n 3, 1) := by decide +kernel
theorem dL_law_346 : decode cL_law 346 = .ok (.iconst 3, 1) := by decide +kernel
theorem dL_law_347 : decode cL_law 347 = .ok (.iadd, 1) := by decide +kernel
theorem dL_law_348 : decode cL_law 348 = .ok (.iaload, 1) := by decide +kernel
theorem dL_law_349 : decode cL_law 349 = .ok (.invokevirtual 44, 3) := by decide +kernel
theorem dL_law_352 : decode cL_law 352 = .ok (.if_icmp .eq 461, 3) := by decide +kernel
theorem dL_law_355 : decode cL_law 355 = .ok (.iconst 0, 1) := by decide +kernel
theorem dL_law_356 : decode cL_law 356 = .ok (.ireturn, 1) := by decide +kernel
theorem dL_law_357 : decode cL_law 357 = .ok (.aload_n 1, 1) := by decide +kernel
theorem dL_law_358 : decode cL_law 358 = .ok (.aload_n 0, 1) := by decide +kernel
theorem dL_law_359 : decode cL_law 359 = .ok (.iload_n 3, 1) := by decide +kernel
theorem dL_law_360 : decode cL_law 360 = .ok (.iconst 1, 1) := by decide +kernel
theorem dL_law_361 : decode cL_law 361 = .ok (.iadd, 1) := by decide +kernel
theorem dL_law_362 : decode cL_law 362 = .ok (.iaload, 1) := by decide +kernel
theorem dL_law_363 : decode cL_law 363 = .ok (.aload_n 0, 1) := by decide +kernel
theorem dL_law_364 : decode cL_law 364 = .ok (.iload_n 3, 1) := by decide +kernel
theorem dL_law_365 : decode cL_law 365 = .ok (.iconst 2, 1) := by decide +kernel
theorem dL_law_366 : decode cL_law 366 = .ok (.iadd, 1) := by decide +kernel
theorem dL_law_367 : decode cL_law 367 = .ok (.iaload, 1) := by decide +kernel
theorem dL_law_368 : decode cL_law 368 = .ok (.invokevirtual 45, 3) := by decide +kernel
theorem dL_law_371 : decode cL_law 371 = .ok (.aload_n 2, 1) := by decide +kernel
theorem dL_law_372 : decode cL_law 372 = .ok (.aload_n 0, 1) := by decide +kernel
theorem dL_law_373 : decode cL_law 373 = .ok (.iload_n 3, 1) := by decide +kernel
theorem dL_law_374 : decode cL_law 374 = .ok (.iconst 1, 1) := by decide +kernel
theorem dL_law_375 : decode cL_law 375 = .ok (.iadd, 1) := by decide +kernel
theorem dL_law_376 : decode cL_law 376 = .ok (.iaload, 1) := by decide +kernel
theorem dL_law_377 : decode cL_law 377 = .ok (.aload_n 0, 1) := by decide +kernel
theorem dL_law_378 : decode cL_law 378 = .ok (.iload_n 3, 1) := by decide +kernel
theorem dL_law_379 : decode cL_law 379 = .ok (.iconst 2, 1) := by decide +kernel
theorem dL_law_380 : decode cL_law 380 = .ok (.iadd, 1) := by decide +kernel
theorem dL_law_381 : decode cL_law 381 = .ok (.iaload, 1) := by decide +kernel
theorem dL_law_382 : decode cL_law 382 = .ok (.invokevirtual 48, 3) := by decide +kernel
theorem dL_law_385 : decode cL_law 385 = .ok (.if_icmp .eq 428, 3) := by decide +kernel
theorem dL_law_388 : decode cL_law 388 = .ok (.iconst 0, 1) := by decide +kernel
theorem dL_law_389 : decode cL_law 389 = .ok (.ireturn, 1) := by decide +kernel
theorem dL_law_390 : decode cL_law 390 = .ok (.aload_n 1, 1) := by decide +kernel
theorem dL_law_391 : decode cL_law 391 = .ok (.aload_n 0, 1) := by decide +kernel
theorem dL_law_392 : decode cL_law 392 = .ok (.iload_n 3, 1) := by decide +kernel
theorem dL_law_393 : decode cL_law 393 = .ok (.iconst 1, 1) := by decide +kernel
theorem dL_law_394 : decode cL_law 394 = .ok (.iadd, 1) := by decide +kernel
theorem dL_law_395 : decode cL_law 395 = .ok (.iaload, 1) := by decide +kernel
theorem dL_law_396 : decode cL_law 396 = .ok (.invokevirtual 49, 3) := by decide +kernel
theorem dL_law_399 : decode cL_law 399 = .ok (.aload_n 2, 1) := by decide +kernel
theorem dL_law_400 : decode cL_law 400 = .ok (.aload_n 0, 1) := by decide +kernel
theorem dL_law_401 : decode cL_law 401 = .ok (.iload_n 3, 1) := by decide +kernel
theorem dL_law_402 : decode cL_law 402 = .ok (.iconst 1, 1) := by decide +kernel
theorem dL_law_403 : decode cL_law 403 = .ok (.iadd, 1) := by decide +kernel
theorem dL_law_404 : decode cL_law 404 = .ok (.iaload, 1) := by decide +kernel
theorem dL_law_405 : decode cL_law 405 = .ok (.invokevirtual 52, 3) := by decide +kernel
theorem dL_law_408 : decode cL_law 408 = .ok (.if_icmp .eq 405, 3) := by decide +kernel
theorem dL_law_411 : decode cL_law 411 = .ok (.iconst 0, 1) := by decide +kernel
theorem dL_law_412 : decode cL_law 412 = .ok (.ireturn, 1) := by decide +kernel
theorem dL_law_413 : decode cL_law 413 = .ok (.aload_n 1, 1) := by decide +kernel
theorem dL_law_414 : decode cL_law 414 = .ok (.aload_n 0, 1) := by decide +kernel
theorem dL_law_415 : decode cL_law 415 = .ok (.iload_n 3, 1) := by decide +kernel
theorem dL_law_416 : decode cL_law 416 = .ok (.iconst 1, 1) := by decide +kernel
theorem dL_law_417 : decode cL_law 417 = .ok (.iadd, 1) := by decide +kernel
theorem dL_law_418 : decode cL_law 418 = .ok (.iaload, 1) := by decide +kernel
theorem dL_law_419 : decode cL_law 419 = .ok (.aload_n 0, 1) := by decide +kernel
theorem dL_law_420 : decode cL_law 420 = .ok (.iload_n 3, 1) := by decide +kernel
theorem dL_law_421 : decode cL_law 421 = .ok (.iconst 2, 1) := by decide +kernel
theorem dL_law_422 : decode cL_law 422 = .ok (.iadd, 1) := by decide +kernel
theorem dL_law_423 : decode cL_law 423 = .ok (.iaload, 1) := by decide +kernel
theorem dL_law_424 : decode cL_law 424 = .ok (.aload_n 0, 1) := by decide +kernel
theorem dL_law_425 : decode cL_law 425 = .ok (.iload_n 3, 1) := by decide +kernel
theorem dL_law_426 : decode cL_law 426 = .ok (.iconst 3, 1) := by decide +kernel
theorem dL_law_427 : decode cL_law 427 = .ok (.iadd, 1) := by decide +kernel
theorem dL_law_428 : decode cL_law 428 = .ok (.iaload, 1) := by decide +kernel
theorem dL_law_429 : decode cL_law 429 = .ok (.aload_n 0, 1) := by decide +kernel
theorem dL_law_430 : decode cL_law 430 = .ok (.iload_n 3, 1) := by decide +kernel
theorem dL_law_431 : decode cL_law 431 = .ok (.iconst 4, 1) := by decide +kernel
theorem dL_law_432 : decode cL_law 432 = .ok (.iadd, 1) := by decide +kernel
theorem dL_law_433 : decode cL_law 433 = .ok (.iaload, 1) := by decide +kernel
theorem dL_law_434 : decode cL_law 434 = .ok (.invokevirtual 53, 3) := by decide +kernel
theorem dL_law_437 : decode cL_law 437 = .ok (.aload_n 2, 1) := by decide +kernel
theorem dL_law_438 : decode cL_law 438 = .ok (.aload_n 0, 1) := by decide +kernel
theorem dL_law_439 : decode cL_law 439 = .ok (.iload_n 3, 1) := by decide +kernel
theorem dL_law_440 : decode cL_law 440 = .ok (.iconst 1, 1) := by decide +kernel
theorem dL_law_441 : decode cL_law 441 = .ok (.iadd, 1) := by decide +kernel
theorem dL_law_442 : decode cL_law 442 = .ok (.iaload, 1) := by decide +kernel
theorem dL_law_443 : decode cL_law 443 = .ok (.aload_n 0, 1) := by decide +kernel
theorem dL_law_444 : decode cL_law 444 = .ok (.iload_n 3, 1) := by decide +kernel
theorem dL_law_445 : decode cL_law 445 = .ok (.iconst 2, 1) := by decide +kernel
theorem dL_law_446 : decode cL_law 446 = .ok (.iadd, 1) := by decide +kernel
theorem dL_law_447 : decode cL_law 447 = .ok (.iaload, 1) := by decide +kernel
theorem dL_law_448 : decode cL_law 448 = .ok (.aload_n 0, 1) := by decide +kernel
theorem dL_law_449 : decode cL_law 449 = .ok (.iload_n 3, 1) := by decide +kernel
theorem dL_law_450 : decode cL_law 450 = .ok (.iconst 3, 1) := by decide +kernel
theorem dL_law_451 : decode cL_law 451 = .ok (.iadd, 1) := by decide +kernel
theorem dL_law_452 : decode cL_law 452 = .ok (.iaload, 1) := by decide +kernel
theorem dL_law_453 : decode cL_law 453 = .ok (.aload_n 0, 1) := by decide +kernel
theorem dL_law_454 : decode cL_law 454 = .ok (.iload_n 3, 1) := by decide +kernel
theorem dL_law_455 : decode cL_law 455 = .ok (.iconst 4, 1) := by decide +kernel
theorem dL_law_456 : decode cL_law 456 = .ok (.iadd, 1) := by decide +kernel
theorem dL_law_457 : decode cL_law 457 = .ok (.iaload, 1) := by decide +kernel
theorem dL_law_458 : decode cL_law 458 = .ok (.invokevirtual 57, 3) := by decide +kernel
theorem dL_law_461 : decode cL_law 461 = .ok (.if_icmp .eq 352, 3) := by decide +kernel
theorem dL_law_464 : decode cL_law 464 = .ok (.iconst 0, 1) := by decide +kernel
theorem dL_law_465 : decode cL_law 465 = .ok (.ireturn, 1) := by decide +kernel
theorem dL_law_466 : decode cL_law 466 = .ok (.aload_n 1, 1) := by decide +kernel
theorem dL_law_467 : decode cL_law 467 = .ok (.aload_n 0, 1) := by decide +kernel
theorem dL_law_468 : decode cL_law 468 = .ok (.iload_n 3, 1) := by decide +kernel
theorem dL_law_469 : decode cL_law 469 = .ok (.iconst 1, 1) := by decide +kernel
theorem dL_law_470 : decode cL_law 470 = .ok (.iadd, 1) := by decide +kernel
theorem dL_law_471 : decode cL_law 471 = .ok (.iaload, 1) := by decide +kernel
theorem dL_law_472 : decode cL_law 472 = .ok (.aload_n 0, 1) := by decide +kernel
theorem dL_law_473 : decode cL_law 473 = .ok (.iload_n 3, 1) := by decide +kernel
theorem dL_law_474 : decode cL_law 474 = .ok (.iconst 2, 1) := by decide +kernel
theorem dL_law_475 : decode cL_law 475 = .ok (.iadd, 1) := by decide +kernel
theorem dL_law_476 : decode cL_law 476 = .ok (.iaload, 1) := by decide +kernel
theorem dL_law_477 : decode cL_law 477 = .ok (.aload_n 0, 1) := by decide +kernel
theorem dL_law_478 : decode cL_law 478 = .ok (.iload_n 3, 1) := by decide +kernel
theorem dL_law_479 : decode cL_law 479 = .ok (.iconst 3, 1) := by decide +kernel
theorem dL_law_480 : decode cL_law 480 = .ok (.iadd, 1) := by decide +kernel
theorem dL_law_481 : decode cL_law 481 = .ok (.iaload, 1) := by decide +kernel
theorem dL_law_482 : decode cL_law 482 = .ok (.aload_n 0, 1) := by decide +kernel
theorem dL_law_483 : decode cL_law 483 = .ok (.iload_n 3, 1) := by decide +kernel
theorem dL_law_484 : decode cL_law 484 = .ok (.iconst 4, 1) := by decide +kernel
theorem dL_law_485 : decode cL_law 485 = .ok (.iadd, 1) := by decide +kernel
theorem dL_law_486 : decode cL_law 486 = .ok (.iaload, 1) := by decide +kernel
theorem dL_law_487 : decode cL_law 487 = .ok (.aload_n 0, 1) := by decide +kernel
theorem dL_law_488 : decode cL_law 488 = .ok (.iload_n 3, 1) := by decide +kernel
theorem dL_law_489 : decode cL_law 489 = .ok (.iconst 5, 1) := by decide +kernel
theorem dL_law_490 : decode cL_law 490 = .ok (.iadd, 1) := by decide +kernel
theorem dL_law_491 : decode cL_law 491 = .ok (.iaload, 1) := by decide +kernel
theorem dL_law_492 : decode cL_law 492 = .ok (.invokevirtual 58, 3) := by decide +kernel
theorem dL_law_495 : decode cL_law 495 = .ok (.aload_n 2, 1) := by decide +kernel
theorem dL_law_496 : decode cL_law 496 = .ok (.aload_n 0, 1) := by decide +kernel
theorem dL_law_497 : decode cL_law 497 = .ok (.iload_n 3, 1) := by decide +kernel
theorem dL_law_498 : decode cL_law 498 = .ok (.iconst 1, 1) := by decide +kernel
theorem dL_law_499 : decode cL_law 499 = .ok (.iadd, 1) := by decide +kernel
theorem dL_law_500 : decode cL_law 500 = .ok (.iaload, 1) := by decide +kernel
theorem dL_law_501 : decode cL_law 501 = .ok (.aload_n 0, 1) := by decide +kernel
theorem dL_law_502 : decode cL_law 502 = .ok (.iload_n 3, 1) := by decide +kernel
theorem dL_law_503 : decode cL_law 503 = .ok (.iconst 2, 1) := by decide +kernel
theorem dL_law_504 : decode cL_law 504 = .ok (.iadd, 1) := by decide +kernel
theorem dL_law_505 : decode cL_law 505 = .ok (.iaload, 1) := by decide +kernel
theorem dL_law_506 : decode cL_law 506 = .ok (.aload_n 0, 1) := by decide +kernel
theorem dL_law_507 : decode cL_law 507 = .ok (.iload_n 3, 1) := by decide +kernel
theorem dL_law_508 : decode cL_law 508 = .ok (.iconst 3, 1) := by decide +kernel
theorem dL_law_509 : decode cL_law 509 = .ok (.iadd, 1) := by decide +kernel
theorem dL_law_510 : decode cL_law 510 = .ok (.iaload, 1) := by decide +kernel
theorem dL_law_511 : decode cL_law 511 = .ok (.aload_n 0, 1) := by decide +kernel
theorem dL_law_512 : decode cL_law 512 = .ok (.iload_n 3, 1) := by decide +kernel
theorem dL_law_513 : decode cL_law 513 = .ok (.iconst 4, 1) := by decide +kernel
theorem dL_law_514 : decode cL_law 514 = .ok (.iadd, 1) := by decide +kernel
theorem dL_law_515 : decode cL_law 515 = .ok (.iaload, 1) := by decide +kernel
theorem dL_law_516 : decode cL_law 516 = .ok (.aload_n 0, 1) := by decide +kernel
theorem dL_law_517 : decode cL_law 517 = .ok (.iload_n 3, 1) := by decide +kernel
theorem dL_law_518 : decode cL_law 518 = .ok (.iconst 5, 1) := by decide +kernel
theorem dL_law_519 : decode cL_law 519 = .ok (.iadd, 1) := by decide +kernel
theorem dL_law_520 : decode cL_law 520 = .ok (.iaload, 1) := by decide +kernel
theorem dL_law_521 : decode cL_law 521 = .ok (.invokevirtual 62, 3) := by decide +kernel
theorem dL_law_524 : decode cL_law 524 = .ok (.if_icmp .eq 289, 3) := by decide +kernel
theorem dL_law_527 : decode cL_law 527 = .ok (.iconst 0, 1) := by decide +kernel
theorem dL_law_528 : decode cL_law 528 = .ok (.ireturn, 1) := by decide +kernel
theorem dL_law_529 : decode cL_law 529 = .ok (.aload_n 1, 1) := by decide +kernel
theorem dL_law_530 : decode cL_law 530 = .ok (.aload_n 0, 1) := by decide +kernel
theorem dL_law_531 : decode cL_law 531 = .ok (.iload_n 3, 1) := by decide +kernel
theorem dL_law_532 : decode cL_law 532 = .ok (.iconst 1, 1) := by decide +kernel
theorem dL_law_533 : decode cL_law 533 = .ok (.iadd, 1) := by decide +kernel
theorem dL_law_534 : decode cL_law 534 = .ok (.iaload, 1) := by decide +kernel
theorem dL_law_535 : decode cL_law 535 = .ok (.aload_n 0, 1) := by decide +kernel
theorem dL_law_536 : decode cL_law 536 = .ok (.iload_n 3, 1) := by decide +kernel
theorem dL_law_537 : decode cL_law 537 = .ok (.iconst 2, 1) := by decide +kernel
theorem dL_law_538 : decode cL_law 538 = .ok (.iadd, 1) := by decide +kernel
theorem dL_law_539 : decode cL_law 539 = .ok (.iaload, 1) := by decide +kernel
theorem dL_law_540 : decode cL_law 540 = .ok (.aload_n 0, 1) := by decide +kernel
theorem dL_law_541 : decode cL_law 541 = .ok (.iload_n 3, 1) := by decide +kernel
theorem dL_law_542 : decode cL_law 542 = .ok (.iconst 3, 1) := by decide +kernel
theorem dL_law_543 : decode cL_law 543 = .ok (.iadd, 1) := by decide +kernel
theorem dL_law_544 : decode cL_law 544 = .ok (.iaload, 1) := by decide +kernel
theorem dL_law_545 : decode cL_law 545 = .ok (.invokevirtual 63, 3) := by decide +kernel
theorem dL_law_548 : decode cL_law 548 = .ok (.aload_n 2, 1) := by decide +kernel
theorem dL_law_549 : decode cL_law 549 = .ok (.aload_n 0, 1) := by decide +kernel
theorem dL_law_550 : decode cL_law 550 = .ok (.iload_n 3, 1) := by decide +kernel
theorem dL_law_551 : decode cL_law 551 = .ok (.iconst 1, 1) := by decide +kernel
theorem dL_law_552 : decode cL_law 552 = .ok (.iadd, 1) := by decide +kernel
theorem dL_law_553 : decode cL_law 553 = .ok (.iaload, 1) := by decide +kernel
theorem dL_law_554 : decode cL_law 554 = .ok (.aload_n 0, 1) := by decide +kernel
theorem dL_law_555 : decode cL_law 555 = .ok (.iload_n 3, 1) := by decide +kernel
theorem dL_law_556 : decode cL_law 556 = .ok (.iconst 2, 1) := by decide +kernel
theorem dL_law_557 : decode cL_law 557 = .ok (.iadd, 1) := by decide +kernel
theorem dL_law_558 : decode cL_law 558 = .ok (.iaload, 1) := by decide +kernel
theorem dL_law_559 : decode cL_law 559 = .ok (.aload_n 0, 1) := by decide +kernel
theorem dL_law_560 : decode cL_law 560 = .ok (.iload_n 3, 1) := by decide +kernel
theorem dL_law_561 : decode cL_law 561 = .ok (.iconst 3, 1) := by decide +kernel
theorem dL_law_562 : decode cL_law 562 = .ok (.iadd, 1) := by decide +kernel
theorem dL_law_563 : decode cL_law 563 = .ok (.iaload, 1) := by decide +kernel
theorem dL_law_564 : decode cL_law 564 = .ok (.invokevirtual 66, 3) := by decide +kernel
theorem dL_law_567 : decode cL_law 567 = .ok (.if_icmp .eq 246, 3) := by decide +kernel
theorem dL_law_570 : decode cL_law 570 = .ok (.iconst 0, 1) := by decide +kernel
theorem dL_law_571 : decode cL_law 571 = .ok (.ireturn, 1) := by decide +kernel
theorem dL_law_572 : decode cL_law 572 = .ok (.aload_n 1, 1) := by decide +kernel
theorem dL_law_573 : decode cL_law 573 = .ok (.aload_n 0, 1) := by decide +kernel
theorem dL_law_574 : decode cL_law 574 = .ok (.iload_n 3, 1) := by decide +kernel
theorem dL_law_575 : decode cL_law 575 = .ok (.iconst 1, 1) := by decide +kernel
theorem dL_law_576 : decode cL_law 576 = .ok (.iadd, 1) := by decide +kernel
theorem dL_law_577 : decode cL_law 577 = .ok (.iaload, 1) := by decide +kernel
theorem dL_law_578 : decode cL_law 578 = .ok (.invokevirtual 67, 3) := by decide +kernel
theorem dL_law_581 : decode cL_law 581 = .ok (.aload_n 2, 1) := by decide +kernel
theorem dL_law_582 : decode cL_law 582 = .ok (.aload_n 0, 1) := by decide +kernel
theorem dL_law_583 : decode cL_law 583 = .ok (.iload_n 3, 1) := by decide +kernel
theorem dL_law_584 : decode cL_law 584 = .ok (.iconst 1, 1) := by decide +kernel
theorem dL_law_585 : decode cL_law 585 = .ok (.iadd, 1) := by decide +kernel
theorem dL_law_586 : decode cL_law 586 = .ok (.iaload, 1) := by decide +kernel
theorem dL_law_587 : decode cL_law 587 = .ok (.invokevirtual 71, 3) := by decide +kernel
theorem dL_law_590 : decode cL_law 590 = .ok (.lcmp, 1) := by decide +kernel
theorem dL_law_591 : decode cL_law 591 = .ok (.ifCond .eq 222, 3) := by decide +kernel
theorem dL_law_594 : decode cL_law 594 = .ok (.iconst 0, 1) := by decide +kernel
theorem dL_law_595 : decode cL_law 595 = .ok (.ireturn, 1) := by decide +kernel
theorem dL_law_596 : decode cL_law 596 = .ok (.aload_n 1, 1) := by decide +kernel
theorem dL_law_597 : decode cL_law 597 = .ok (.aload_n 0, 1) := by decide +kernel
theorem dL_law_598 : decode cL_law 598 = .ok (.iload_n 3, 1) := by decide +kernel
theorem dL_law_599 : decode cL_law 599 = .ok (.iconst 1, 1) := by decide +kernel
theorem dL_law_600 : decode cL_law 600 = .ok (.iadd, 1) := by decide +kernel
theorem dL_law_601 : decode cL_law 601 = .ok (.iaload, 1) := by decide +kernel
theorem dL_law_602 : decode cL_law 602 = .ok (.aload_n 0, 1) := by decide +kernel
theorem dL_law_603 : decode cL_law 603 = .ok (.iload_n 3, 1) := by decide +kernel
theorem dL_law_604 : decode cL_law 604 = .ok (.iconst 2, 1) := by decide +kernel
theorem dL_law_605 : decode cL_law 605 = .ok (.iadd, 1) := by decide +kernel
theorem dL_law_606 : decode cL_law 606 = .ok (.iaload, 1) := by decide +kernel
theorem dL_law_607 : decode cL_law 607 = .ok (.invokevirtual 72, 3) := by decide +kernel
theorem dL_law_610 : decode cL_law 610 = .ok (.aload_n 2, 1) := by decide +kernel
theorem dL_law_611 : decode cL_law 611 = .ok (.aload_n 0, 1) := by decide +kernel
theorem dL_law_612 : decode cL_law 612 = .ok (.iload_n 3, 1) := by decide +kernel
theorem dL_law_613 : decode cL_law 613 = .ok (.iconst 1, 1) := by decide +kernel
theorem dL_law_614 : decode cL_law 614 = .ok (.iadd, 1) := by decide +kernel
theorem dL_law_615 : decode cL_law 615 = .ok (.iaload, 1) := by decide +kernel
theorem dL_law_616 : decode cL_law 616 = .ok (.aload_n 0, 1) := by decide +kernel
theorem dL_law_617 : decode cL_law 617 = .ok (.iload_n 3, 1) := by decide +kernel
theorem dL_law_618 : decode cL_law 618 = .ok (.iconst 2, 1) := by decide +kernel
theorem dL_law_619 : decode cL_law 619 = .ok (.iadd, 1) := by decide +kernel
theorem dL_law_620 : decode cL_law 620 = .ok (.iaload, 1) := by decide +kernel
theorem dL_law_621 : decode cL_law 621 = .ok (.invokevirtual 75, 3) := by decide +kernel
theorem dL_law_624 : decode cL_law 624 = .ok (.if_icmp .eq 189, 3) := by decide +kernel
theorem dL_law_627 : decode cL_law 627 = .ok (.iconst 0, 1) := by decide +kernel
theorem dL_law_628 : decode cL_law 628 = .ok (.ireturn, 1) := by decide +kernel
theorem dL_law_629 : decode cL_law 629 = .ok (.aload_n 1, 1) := by decide +kernel
theorem dL_law_630 : decode cL_law 630 = .ok (.aload_n 0, 1) := by decide +kernel
theorem dL_law_631 : decode cL_law 631 = .ok (.iload_n 3, 1) := by decide +kernel
theorem dL_law_632 : decode cL_law 632 = .ok (.iconst 1, 1) := by decide +kernel
theorem dL_law_633 : decode cL_law 633 = .ok (.iadd, 1) := by decide +kernel
theorem dL_law_634 : decode cL_law 634 = .ok (.iaload, 1) := by decide +kernel
theorem dL_law_635 : decode cL_law 635 = .ok (.aload_n 0, 1) := by decide +kernel
theorem dL_law_636 : decode cL_law 636 = .ok (.iload_n 3, 1) := by decide +kernel
theorem dL_law_637 : decode cL_law 637 = .ok (.iconst 2, 1) := by decide +kernel
theorem dL_law_638 : decode cL_law 638 = .ok (.iadd, 1) := by decide +kernel
theorem dL_law_639 : decode cL_law 639 = .ok (.iaload, 1) := by decide +kernel
theorem dL_law_640 : decode cL_law 640 = .ok (.invokevirtual 76, 3) := by decide +kernel
theorem dL_law_643 : decode cL_law 643 = .ok (.aload_n 2, 1) := by decide +kernel
theorem dL_law_644 : decode cL_law 644 = .ok (.aload_n 0, 1) := by decide +kernel
theorem dL_law_645 : decode cL_law 645 = .ok (.iload_n 3, 1) := by decide +kernel
theorem dL_law_646 : decode cL_law 646 = .ok (.iconst 1, 1) := by decide +kernel
theorem dL_law_647 : decode cL_law 647 = .ok (.iadd, 1) := by decide +kernel
theorem dL_law_648 : decode cL_law 648 = .ok (.iaload, 1) := by decide +kernel
theorem dL_law_649 : decode cL_law 649 = .ok (.aload_n 0, 1) := by decide +kernel
theorem dL_law_650 : decode cL_law 650 = .ok (.iload_n 3, 1) := by decide +kernel
theorem dL_law_651 : decode cL_law 651 = .ok (.iconst 2, 1) := by decide +kernel
theorem dL_law_652 : decode cL_law 652 = .ok (.iadd, 1) := by decide +kernel
theorem dL_law_653 : decode cL_law 653 = .ok (.iaload, 1) := by decide +kernel
theorem dL_law_654 : decode cL_law 654 = .ok (.invokevirtual 79, 3) := by decide +kernel
theorem dL_law_657 : decode cL_law 657 = .ok (.if_icmp .eq 156, 3) := by decide +kernel
theorem dL_law_660 : decode cL_law 660 = .ok (.iconst 0, 1) := by decide +kernel
theorem dL_law_661 : decode cL_law 661 = .ok (.ireturn, 1) := by decide +kernel
theorem dL_law_662 : decode cL_law 662 = .ok (.aload_n 1, 1) := by decide +kernel
theorem dL_law_663 : decode cL_law 663 = .ok (.aload_n 0, 1) := by decide +kernel
theorem dL_law_664 : decode cL_law 664 = .ok (.iload_n 3, 1) := by decide +kernel
theorem dL_law_665 : decode cL_law 665 = .ok (.iconst 1, 1) := by decide +kernel
theorem dL_law_666 : decode cL_law 666 = .ok (.iadd, 1) := by decide +kernel
theorem dL_law_667 : decode cL_law 667 = .ok (.iaload, 1) := by decide +kernel
theorem dL_law_668 : decode cL_law 668 = .ok (.i2l, 1) := by decide +kernel
theorem dL_law_669 : decode cL_law 669 = .ok (.bipush 32, 2) := by decide +kernel
theorem dL_law_671 : decode cL_law 671 = .ok (.lshl, 1) := by decide +kernel
theorem dL_law_672 : decode cL_law 672 = .ok (.aload_n 0, 1) := by decide +kernel
theorem dL_law_673 : decode cL_law 673 = .ok (.iload_n 3, 1) := by decide +kernel
theorem dL_law_674 : decode cL_law 674 = .ok (.iconst 2, 1) := by decide +kernel
theorem dL_law_675 : decode cL_law 675 = .ok (.iadd, 1) := by decide +kernel
theorem dL_law_676 : decode cL_law 676 = .ok (.iaload, 1) := by decide +kernel
theorem dL_law_677 : decode cL_law 677 = .ok (.i2l, 1) := by decide +kernel
theorem dL_law_678 : decode cL_law 678 = .ok (.ldc2_w 80, 3) := by decide +kernel
theorem dL_law_681 : decode cL_law 681 = .ok (.land, 1) := by decide +kernel
theorem dL_law_682 : decode cL_law 682 = .ok (.lor, 1) := by decide +kernel
theorem dL_law_683 : decode cL_law 683 = .ok (.invokevirtual 82, 3) := by decide +kernel
theorem dL_law_686 : decode cL_law 686 = .ok (.aload_n 2, 1) := by decide +kernel
theorem dL_law_687 : decode cL_law 687 = .ok (.aload_n 0, 1) := by decide +kernel
theorem dL_law_688 : decode cL_law 688 = .ok (.iload_n 3, 1) := by decide +kernel
theorem dL_law_689 : decode cL_law 689 = .ok (.iconst 1, 1) := by decide +kernel
theorem dL_law_690 : decode cL_law 690 = .ok (.iadd, 1) := by decide +kernel
theorem dL_law_691 : decode cL_law 691 = .ok (.iaload, 1) := by decide +kernel
theorem dL_law_692 : decode cL_law 692 = .ok (.i2l, 1) := by decide +kernel
theorem dL_law_693 : decode cL_law 693 = .ok (.bipush 32, 2) := by decide +kernel
theorem dL_law_695 : decode cL_law 695 = .ok (.lshl, 1) := by decide +kernel
theorem dL_law_696 : decode cL_law 696 = .ok (.aload_n 0, 1) := by decide +kernel
theorem dL_law_697 : decode cL_law 697 = .ok (.iload_n 3, 1) := by decide +kernel
theorem dL_law_698 : decode cL_law 698 = .ok (.iconst 2, 1) := by decide +kernel
theorem dL_law_699 : decode cL_law 699 = .ok (.iadd, 1) := by decide +kernel
theorem dL_law_700 : decode cL_law 700 = .ok (.iaload, 1) := by decide +kernel
theorem dL_law_701 : decode cL_law 701 = .ok (.i2l, 1) := by decide +kernel
theorem dL_law_702 : decode cL_law 702 = .ok (.ldc2_w 80, 3) := by decide +kernel
theorem dL_law_705 : decode cL_law 705 = .ok (.land, 1) := by decide +kernel
theorem dL_law_706 : decode cL_law 706 = .ok (.lor, 1) := by decide +kernel
theorem dL_law_707 : decode cL_law 707 = .ok (.invokevirtual 86, 3) := by decide +kernel
theorem dL_law_710 : decode cL_law 710 = .ok (.if_icmp .eq 103, 3) := by decide +kernel
theorem dL_law_713 : decode cL_law 713 = .ok (.iconst 0, 1) := by decide +kernel
theorem dL_law_714 : decode cL_law 714 = .ok (.ireturn, 1) := by decide +kernel
theorem dL_law_715 : decode cL_law 715 = .ok (.aload_n 1, 1) := by decide +kernel
theorem dL_law_716 : decode cL_law 716 = .ok (.invokevirtual 87, 3) := by decide +kernel
theorem dL_law_719 : decode cL_law 719 = .ok (.aload_n 2, 1) := by decide +kernel
theorem dL_law_720 : decode cL_law 720 = .ok (.invokevirtual 90, 3) := by decide +kernel
theorem dL_law_723 : decode cL_law 723 = .ok (.if_icmp .eq 90, 3) := by decide +kernel
theorem dL_law_726 : decode cL_law 726 = .ok (.iconst 0, 1) := by decide +kernel
theorem dL_law_727 : decode cL_law 727 = .ok (.ireturn, 1) := by decide +kernel
theorem dL_law_728 : decode cL_law 728 = .ok (.aload_n 1, 1) := by decide +kernel
theorem dL_law_729 : decode cL_law 729 = .ok (.invokevirtual 91, 3) := by decide +kernel
theorem dL_law_732 : decode cL_law 732 = .ok (.aload_n 2, 1) := by decide +kernel
theorem dL_law_733 : decode cL_law 733 = .ok (.invokevirtual 94, 3) := by decide +kernel
theorem dL_law_736 : decode cL_law 736 = .ok (.if_icmp .eq 77, 3) := by decide +kernel
theorem dL_law_739 : decode cL_law 739 = .ok (.iconst 0, 1) := by decide +kernel
theorem dL_law_740 : decode cL_law 740 = .ok (.ireturn, 1) := by decide +kernel
theorem dL_law_741 : decode cL_law 741 = .ok (.aload_n 1, 1) := by decide +kernel
theorem dL_law_742 : decode cL_law 742 = .ok (.invokevirtual 95, 3) := by decide +kernel
theorem dL_law_745 : decode cL_law 745 = .ok (.aload_n 2, 1) := by decide +kernel
theorem dL_law_746 : decode cL_law 746 = .ok (.invokevirtual 98, 3) := by decide +kernel
theorem dL_law_749 : decode cL_law 749 = .ok (.if_icmp .eq 64, 3) := by decide +kernel
theorem dL_law_752 : decode cL_law 752 = .ok (.iconst 0, 1) := by decide +kernel
theorem dL_law_753 : decode cL_law 753 = .ok (.ireturn, 1) := by decide +kernel
theorem dL_law_754 : decode cL_law 754 = .ok (.aload_n 1, 1) := by decide +kernel
theorem dL_law_755 : decode cL_law 755 = .ok (.invokevirtual 99, 3) := by decide +kernel
theorem dL_law_758 : decode cL_law 758 = .ok (.aload_n 2, 1) := by decide +kernel
theorem dL_law_759 : decode cL_law 759 = .ok (.invokevirtual 102, 3) := by decide +kernel
theorem dL_law_762 : decode cL_law 762 = .ok (.if_icmp .eq 51, 3) := by decide +kernel
theorem dL_law_765 : decode cL_law 765 = .ok (.iconst 0, 1) := by decide +kernel
theorem dL_law_766 : decode cL_law 766 = .ok (.ireturn, 1) := by decide +kernel
theorem dL_law_767 : decode cL_law 767 = .ok (.aload_n 1, 1) := by decide +kernel
theorem dL_law_768 : decode cL_law 768 = .ok (.aload_n 0, 1) := by decide +kernel
theorem dL_law_769 : decode cL_law 769 = .ok (.iload_n 3, 1) := by decide +kernel
theorem dL_law_770 : decode cL_law 770 = .ok (.iconst 1, 1) := by decide +kernel
theorem dL_law_771 : decode cL_law 771 = .ok (.iadd, 1) := by decide +kernel
theorem dL_law_772 : decode cL_law 772 = .ok (.iaload, 1) := by decide +kernel
theorem dL_law_773 : decode cL_law 773 = .ok (.invokevirtual 103, 3) := by decide +kernel
theorem dL_law_776 : decode cL_law 776 = .ok (.aload_n 2, 1) := by decide +kernel
theorem dL_law_777 : decode cL_law 777 = .ok (.aload_n 0, 1) := by decide +kernel
theorem dL_law_778 : decode cL_law 778 = .ok (.iload_n 3, 1) := by decide +kernel
theorem dL_law_779 : decode cL_law 779 = .ok (.iconst 1, 1) := by decide +kernel
theorem dL_law_780 : decode cL_law 780 = .ok (.iadd, 1) := by decide +kernel
theorem dL_law_781 : decode cL_law 781 = .ok (.iaload, 1) := by decide +kernel
theorem dL_law_782 : decode cL_law 782 = .ok (.invokevirtual 106, 3) := by decide +kernel
theorem dL_law_785 : decode cL_law 785 = .ok (.if_icmp .eq 28, 3) := by decide +kernel
theorem dL_law_788 : decode cL_law 788 = .ok (.iconst 0, 1) := by decide +kernel
theorem dL_law_789 : decode cL_law 789 = .ok (.ireturn, 1) := by decide +kernel
theorem dL_law_790 : decode cL_law 790 = .ok (.aload_n 1, 1) := by decide +kernel
theorem dL_law_791 : decode cL_law 791 = .ok (.aload_n 0, 1) := by decide +kernel
theorem dL_law_792 : decode cL_law 792 = .ok (.iload_n 3, 1) := by decide +kernel
theorem dL_law_793 : decode cL_law 793 = .ok (.iconst 1, 1) := by decide +kernel
theorem dL_law_794 : decode cL_law 794 = .ok (.iadd, 1) := by decide +kernel
theorem dL_law_795 : decode cL_law 795 = .ok (.iaload, 1) := by decide +kernel
theorem dL_law_796 : decode cL_law 796 = .ok (.invokevirtual 107, 3) := by decide +kernel
theorem dL_law_799 : decode cL_law 799 = .ok (.aload_n 2, 1) := by decide +kernel
theorem dL_law_800 : decode cL_law 800 = .ok (.aload_n 0, 1) := by decide +kernel
theorem dL_law_801 : decode cL_law 801 = .ok (.iload_n 3, 1) := by decide +kernel
theorem dL_law_802 : decode cL_law 802 = .ok (.iconst 1, 1) := by decide +kernel
theorem dL_law_803 : decode cL_law 803 = .ok (.iadd, 1) := by decide +kernel
theorem dL_law_804 : decode cL_law 804 = .ok (.iaload, 1) := by decide +kernel
theorem dL_law_805 : decode cL_law 805 = .ok (.invokevirtual 110, 3) := by decide +kernel
theorem dL_law_808 : decode cL_law 808 = .ok (.if_icmp .eq 5, 3) := by decide +kernel
theorem dL_law_811 : decode cL_law 811 = .ok (.iconst 0, 1) := by decide +kernel
theorem dL_law_812 : decode cL_law 812 = .ok (.ireturn, 1) := by decide +kernel
theorem dL_law_813 : decode cL_law 813 = .ok (.iinc 3 6, 3) := by decide +kernel
theorem dL_law_816 : decode cL_law 816 = .ok (.goto (-798), 3) := by decide +kernel
theorem dL_law_819 : decode cL_law 819 = .ok (.iconst 1, 1) := by decide +kernel
theorem dL_law_820 : decode cL_law 820 = .ok (.ireturn, 1) := by decide +kernel

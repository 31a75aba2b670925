theorem dX8_hasRow_12 : decode cX8_hasRow 12 = .ok (.iconst 1, 1) := by decide +kernel
theorem dX8_hasRow_13 : decode cX8_hasRow 13 = .ok (.goto 4, 3) := by decide +kernel
theorem dX8_hasRow_16 : decode cX8_hasRow 16 = .ok (.iconst 0, 1) := by decide +kernel
theorem dX8_hasRow_17 : decode cX8_hasRow 17 = .ok (.ireturn, 1) := by decide +kernel
theorem dX8_value_0 : decode cX8_value 0 = .ok (.iload_n 1, 1) := by decide +kernel
theorem dX8_value_1 : decode cX8_value 1 = .ok (.ifCond .lt 11, 3) := by decide +kernel
theorem dX8_value_4 : decode cX8_value 4 = .ok (.iload_n 1, 1) := by decide +kernel
theorem dX8_value_5 : decode cX8_value 5 = .ok (.aload_n 0, 1) := by decide +kernel
theorem dX8_value_6 : decode cX8_value 6 = .ok (.getfield 18, 3) := by decide +kernel
theorem dX8_value_9 : decode cX8_value 9 = .ok (.if_icmp .lt 5, 3) := by decide +kernel
theorem dX8_value_12 : decode cX8_value 12 = .ok (.iconst 0, 1) := by decide +kernel
theorem dX8_value_13 : decode cX8_value 13 = .ok (.ireturn, 1) := by decide +kernel
theorem dX8_value_14 : decode cX8_value 14 = .ok (.iload_n 2, 1) := by decide +kernel
theorem dX8_value_15 : decode cX8_value 15 = .ok (.ifCond .ne 12, 3) := by decide +kernel
theorem dX8_value_18 : decode cX8_value 18 = .ok (.aload_n 0, 1) := by decide +kernel
theorem dX8_value_19 : decode cX8_value 19 = .ok (.getfield 9, 3) := by decide +kernel
theorem dX8_value_22 : decode cX8_value 22 = .ok (.iload_n 1, 1) := by decide +kernel
theorem dX8_value_23 : decode cX8_value 23 = .ok (.iaload, 1) := by decide +kernel
theorem dX8_value_24 : decode cX8_value 24 = .ok (.goto 9, 3) := by decide +kernel
theorem dX8_value_27 : decode cX8_value 27 = .ok (.aload_n 0, 1) := by decide +kernel
theorem dX8_value_28 : decode cX8_value 28 = .ok (.getfield 15, 3) := by decide +kernel
theorem dX8_value_31 : decode cX8_value 31 = .ok (.iload_n 1, 1) := by decide +kernel
theorem dX8_value_32 : decode cX8_value 32 = .ok (.iaload, 1) := by decide +kernel
theorem dX8_value_33 : decode cX8_value 33 = .ok (.ireturn, 1) := by decide +kernel
theorem dX8_add_0 : decode cX8_add 0 = .ok (.aload_n 0, 1) := by decide +kernel
theorem dX8_add_1 : decode cX8_add 1 = .ok (.getfield 18, 3) := by decide +kernel
theorem dX8_add_4 : decode cX8_add 4 = .ok (.ifCond .lt 10, 3) := by decide +kernel
theorem dX8_add_7 : decode cX8_add 7 = .ok (.aload_n 0, 1) := by decide +kernel
theorem dX8_add_8 : decode cX8_add 8 = .ok (.invokevirtual 22, 3) := by decide +kernel
theorem dX8_add_11 : decode cX8_add 11 = .ok (.ifCond .eq 4, 3) := by decide +kernel
theorem dX8_add_14 : decode cX8_add 14 = .ok (.return_, 1) := by decide +kernel
theorem dX8_add_15 : decode cX8_add 15 = .ok (.aload_n 0, 1) := by decide +kernel
theorem dX8_add_16 : decode cX8_add 16 = .ok (.getfield 9, 3) := by decide +kernel
theorem dX8_add_19 : decode cX8_add 19 = .ok (.aload_n 0, 1) := by decide +kernel
theorem dX8_add_20 : decode cX8_add 20 = .ok (.getfield 18, 3) := by decide +kernel
theorem dX8_add_23 : decode cX8_add 23 = .ok (.iload_n 1, 1) := by decide +kernel
theorem dX8_add_24 : decode cX8_add 24 = .ok (.iastore, 1) := by decide +kernel
theorem dX8_add_25 : decode cX8_add 25 = .ok (.aload_n 0, 1) := by decide +kernel
theorem dX8_add_26 : decode cX8_add 26 = .ok (.getfield 15, 3) := by decide +kernel
theorem dX8_add_29 : decode cX8_add 29 = .ok (.aload_n 0, 1) := by decide +kernel
theorem dX8_add_30 : decode cX8_add 30 = .ok (.getfield 18, 3) := by decide +kernel
theorem dX8_add_33 : decode cX8_add 33 = .ok (.iload_n 2, 1) := by decide +kernel
theorem dX8_add_34 : decode cX8_add 34 = .ok (.iastore, 1) := by decide +kernel
theorem dX8_add_35 : decode cX8_add 35 = .ok (.aload_n 0, 1) := by decide +kernel
theorem dX8_add_36 : decode cX8_add 36 = .ok (.dup, 1) := by decide +kernel
theorem dX8_add_37 : decode cX8_add 37 = .ok (.getfield 18, 3) := by decide +kernel
theorem dX8_add_40 : decode cX8_add 40 = .ok (.iconst 1, 1) := by decide +kernel
theorem dX8_add_41 : decode cX8_add 41 = .ok (.iadd, 1) := by decide +kernel
theorem dX8_add_42 : decode cX8_add 42 = .ok (.putfield 18, 3) := by decide +kernel
theorem dX8_add_45 : decode cX8_add 45 = .ok (.return_, 1) := by decide +kernel
theorem dX8_drop_0 : decode cX8_drop 0 = .ok (.aload_n 0, 1) := by decide +kernel
theorem dX8_drop_1 : decode cX8_drop 1 = .ok (.iload_n 1, 1) := by decide +kernel
theorem dX8_drop_2 : decode cX8_drop 2 = .ok (.invokevirtual 26, 3) := by decide +kernel
theorem dX8_drop_5 : decode cX8_drop 5 = .ok (.ifCond .ne 4, 3) := by decide +kernel
theorem dX8_drop_8 : decode cX8_drop 8 = .ok (.return_, 1) := by decide +kernel
theorem dX8_drop_9 : decode cX8_drop 9 = .ok (.iload_n 1, 1) := by decide +kernel
theorem dX8_drop_10 : decode cX8_drop 10 = .ok (.istore_n 2, 1) := by decide +kernel
theorem dX8_drop_11 : decode cX8_drop 11 = .ok (.iload_n 2, 1) := by decide +kernel
theorem dX8_drop_12 : decode cX8_drop 12 = .ok (.iconst 1, 1) := by decide +kernel
theorem dX8_drop_13 : decode cX8_drop 13 = .ok (.iadd, 1) := by decide +kernel
theorem dX8_drop_14 : decode cX8_drop 14 = .ok (.aload_n 0, 1) := by decide +kernel
theorem dX8_drop_15 : decode cX8_drop 15 = .ok (.getfield 18, 3) := by decide +kernel
theorem dX8_drop_18 : decode cX8_drop 18 = .ok (.if_icmp .ge 37, 3) := by decide +kernel
theorem dX8_drop_21 : decode cX8_drop 21 = .ok (.aload_n 0, 1) := by decide +kernel
theorem dX8_drop_22 : decode cX8_drop 22 = .ok (.getfield 9, 3) := by decide +kernel
theorem dX8_drop_25 : decode cX8_drop 25 = .ok (.iload_n 2, 1) := by decide +kernel
theorem dX8_drop_26 : decode cX8_drop 26 = .ok (.aload_n 0, 1) := by decide +kernel
theorem dX8_drop_27 : decode cX8_drop 27 = .ok (.getfield 9, 3) := by decide +kernel
theorem dX8_drop_30 : decode cX8_drop 30 = .ok (.iload_n 2, 1) := by decide +kernel
theorem dX8_drop_31 : decode cX8_drop 31 = .ok (.iconst 1, 1) := by decide +kernel
theorem dX8_drop_32 : decode cX8_drop 32 = .ok (.iadd, 1) := by decide +kernel
theorem dX8_drop_33 : decode cX8_drop 33 = .ok (.iaload, 1) := by decide +kernel
theorem dX8_drop_34 : decode cX8_drop 34 = .ok (.iastore, 1) := by decide +kernel
theorem dX8_drop_35 : decode cX8_drop 35 = .ok (.aload_n 0, 1) := by decide +kernel
theorem dX8_drop_36 : decode cX8_drop 36 = .ok (.getfield 15, 3) := by decide +kernel
theorem dX8_drop_39 : decode cX8_drop 39 = .ok (.iload_n 2, 1) := by decide +kernel
theorem dX8_drop_40 : decode cX8_drop 40 = .ok (.aload_n 0, 1) := by decide +kernel
theorem dX8_drop_41 : decode cX8_drop 41 = .ok (.getfield 15, 3) := by decide +kernel
theorem dX8_drop_44 : decode cX8_drop 44 = .ok (.iload_n 2, 1) := by decide +kernel
theorem dX8_drop_45 : decode cX8_drop 45 = .ok (.iconst 1, 1) := by decide +kernel
theorem dX8_drop_46 : decode cX8_drop 46 = .ok (.iadd, 1) := by decide +kernel
theorem dX8_drop_47 : decode cX8_drop 47 = .ok (.iaload, 1) := by decide +kernel
theorem dX8_drop_48 : decode cX8_drop 48 = .ok (.iastore, 1) := by decide +kernel
theorem dX8_drop_49 : decode cX8_drop 49 = .ok (.iinc 2 1, 3) := by decide +kernel
theorem dX8_drop_52 : decode cX8_drop 52 = .ok (.goto (-41), 3) := by decide +kernel
theorem dX8_drop_55 : decode cX8_drop 55 = .ok (.aload_n 0, 1) := by decide +kernel
theorem dX8_drop_56 : decode cX8_drop 56 = .ok (.dup, 1) := by decide +kernel
theorem dX8_drop_57 : decode cX8_drop 57 = .ok (.getfield 18, 3) := by decide +kernel
theorem dX8_drop_60 : decode cX8_drop 60 = .ok (.iconst 1, 1) := by decide +kernel
theorem dX8_drop_61 : decode cX8_drop 61 = .ok (.isub, 1) := by decide +kernel
theorem dX8_drop_62 : decode cX8_drop 62 = .ok (.putfield 18, 3) := by decide +kernel
theorem dX8_drop_65 : decode cX8_drop 65 = .ok (.return_, 1) := by decide +kernel
theorem dX8_rowsInside_0 : decode cX8_rowsInside 0 = .ok (.iload_n 1, 1) := by decide +kernel
theorem dX8_rowsInside_1 : decode cX8_rowsInside 1 = .ok (.ifCond .ne 15, 3) := by decide +kernel
theorem dX8_rowsInside_4 : decode cX8_rowsInside 4 = .ok (.aload_n 0, 1) := by decide +kernel
theorem dX8_rowsInside_5 : decode cX8_rowsInside 5 = .ok (.iload_n 2, 1) := by decide +kernel
theorem dX8_rowsInside_6 : decode cX8_rowsInside 6 = .ok (.iload_n 3, 1) := by decide +kernel
theorem dX8_rowsInside_7 : decode cX8_rowsInside 7 = .ok (.iconst 0, 1) := by decide +kernel
theorem dX8_rowsInside_8 : decode cX8_rowsInside 8 = .ok (.bipush 99, 2) := by decide +kernel
theorem dX8_rowsInside_10 : decode cX8_rowsInside 10 = .ok (.invokevirtual 30, 3) := by decide +kernel
theorem dX8_rowsInside_13 : decode cX8_rowsInside 13 = .ok (.goto 12, 3) := by decide +kernel
theorem dX8_rowsInside_16 : decode cX8_rowsInside 16 = .ok (.aload_n 0, 1) := by decide +kernel
theorem dX8_rowsInside_17 : decode cX8_rowsInside 17 = .ok (.iconst 0, 1) := by decide +kernel
theorem dX8_rowsInside_18 : decode cX8_rowsInside 18 = .ok (.bipush 99, 2) := by decide +kernel
theorem dX8_rowsInside_20 : decode cX8_rowsInside 20 = .ok (.iload_n 2, 1) := by decide +kernel
theorem dX8_rowsInside_21 : decode cX8_rowsInside 21 = .ok (.iload_n 3, 1) := by decide +kernel
theorem dX8_rowsInside_22 : decode cX8_rowsInside 22 = .ok (.invokevirtual 30, 3) := by decide +kernel
theorem dX8_rowsInside_25 : decode cX8_rowsInside 25 = .ok (.ireturn, 1) := by decide +kernel
theorem dX8_rowsInsideBoth_0 : decode cX8_rowsInsideBoth 0 = .ok (.iconst 0, 1) := by decide +kernel
theorem dX8_rowsInsideBoth_1 : decode cX8_rowsInsideBoth 1 = .ok (.istore 5, 2) := by decide +kernel
theorem dX8_rowsInsideBoth_3 : decode cX8_rowsInsideBoth 3 = .ok (.iconst 0, 1) := by decide +kernel
theorem dX8_rowsInsideBoth_4 : decode cX8_rowsInsideBoth 4 = .ok (.istore 6, 2) := by decide +kernel
theorem dX8_rowsInsideBoth_6 : decode cX8_rowsInsideBoth 6 = .ok (.iload 6, 2) := by decide +kernel
theorem dX8_rowsInsideBoth_8 : decode cX8_rowsInsideBoth 8 = .ok (.aload_n 0, 1) := by decide +kernel
theorem dX8_rowsInsideBoth_9 : decode cX8_rowsInsideBoth 9 = .ok (.getfield 18, 3) := by decide +kernel
theorem dX8_rowsInsideBoth_12 : decode cX8_rowsInsideBoth 12 = .ok (.if_icmp .ge 43, 3) := by decide +kernel
theorem dX8_rowsInsideBoth_15 : decode cX8_rowsInsideBoth 15 = .ok (.aload_n 0, 1) := by decide +kernel
theorem dX8_rowsInsideBoth_16 : decode cX8_rowsInsideBoth 16 = .ok (.getfield 9, 3) := by decide +kernel
theorem dX8_rowsInsideBoth_19 : decode cX8_rowsInsideBoth 19 = .ok (.iload 6, 2) := by decide +kernel
theorem dX8_rowsInsideBoth_21 : decode cX8_rowsInsideBoth 21 = .ok (.iaload, 1) := by decide +kernel
theorem dX8_rowsInsideBoth_22 : decode cX8_rowsInsideBoth 22 = .ok (.iload_n 1, 1) := by decide +kernel
theorem dX8_rowsInsideBoth_23 : decode cX8_rowsInsideBoth 23 = .ok (.iload_n 2, 1) := by decide +kernel
theorem dX8_rowsInsideBoth_24 : decode cX8_rowsInsideBoth 24 = .ok (.invokestatic 34, 3) := by decide +kernel
theorem dX8_rowsInsideBoth_27 : decode cX8_rowsInsideBoth 27 = .ok (.ifCond .eq 22, 3) := by decide +kernel
theorem dX8_rowsInsideBoth_30 : decode cX8_rowsInsideBoth 30 = .ok (.aload_n 0, 1) := by decide +kernel
theorem dX8_rowsInsideBoth_31 : decode cX8_rowsInsideBoth 31 = .ok (.getfield 15, 3) := by decide +kernel
theorem dX8_rowsInsideBoth_34 : decode cX8_rowsInsideBoth 34 = .ok (.iload 6, 2) := by decide +kernel
theorem dX8_rowsInsideBoth_36 : decode cX8_rowsInsideBoth 36 = .ok (.iaload, 1) := by decide +kernel
theorem dX8_rowsInsideBoth_37 : decode cX8_rowsInsideBoth 37 = .ok (.iload_n 3, 1) := by decide +kernel
theorem dX8_rowsInsideBoth_38 : decode cX8_rowsInsideBoth 38 = .ok (.iload 4, 2) := by decide +kernel
theorem dX8_rowsInsideBoth_40 : decode cX8_rowsInsideBoth 40 = .ok (.invokestatic 34, 3) := by decide +kernel
theorem dX8_rowsInsideBoth_43 : decode cX8_rowsInsideBoth 43 = .ok (.ifCond .eq 6, 3) := by decide +kernel
theorem dX8_rowsInsideBoth_46 : decode cX8_rowsInsideBoth 46 = .ok (.iinc 5 1, 3) := by decide +kernel
theorem dX8_rowsInsideBoth_49 : decode cX8_rowsInsideBoth 49 = .ok (.iinc 6 1, 3) := by decide +kernel
theorem dX8_rowsInsideBoth_52 : decode cX8_rowsInsideBoth 52 = .ok (.goto (-46), 3) := by decide +kernel
theorem dX8_rowsInsideBoth_55 : decode cX8_rowsInsideBoth 55 = .ok (.iload 5, 2) := by decide +kernel
theorem dX8_rowsInsideBoth_57 : decode cX8_rowsInsideBoth 57 = .ok (.ireturn, 1) := by decide +kernel
theorem dX8_rowsLike_0 : decode cX8_rowsLike 0 = .ok (.iload_n 1, 1) := by decide +kernel
theorem dX8_rowsLike_1 : decode cX8_rowsLike 1 = .ok (.ifCond .lt 11, 3) := by decide +kernel
theorem dX8_rowsLike_4 : decode cX8_rowsLike 4 = .ok (.iload_n 1, 1) := by decide +kernel
theorem dX8_rowsLike_5 : decode cX8_rowsLike 5 = .ok (.aload_n 0, 1) := by decide +kernel
theorem dX8_rowsLike_6 : decode cX8_rowsLike 6 = .ok (.getfield 18, 3) := by decide +kernel
theorem dX8_rowsLike_9 : decode cX8_rowsLike 9 = .ok (.if_icmp .lt 5, 3) := by decide +kernel
theorem dX8_rowsLike_12 : decode cX8_rowsLike 12 = .ok (.iconst 0, 1) := by decide +kernel
theorem dX8_rowsLike_13 : decode cX8_rowsLike 13 = .ok (.ireturn, 1) := by decide +kernel
theorem dX8_rowsLike_14 : decode cX8_rowsLike 14 = .ok (.iconst 0, 1) := by decide +kernel
theorem dX8_rowsLike_15 : decode cX8_rowsLike 15 = .ok (.istore_n 2, 1) := by decide +kernel
theorem dX8_rowsLike_16 : decode cX8_rowsLike 16 = .ok (.iconst 0, 1) := by decide +kernel
theorem dX8_rowsLike_17 : decode cX8_rowsLike 17 = .ok (.istore_n 3, 1) := by decide +kernel
theorem dX8_rowsLike_18 : decode cX8_rowsLike 18 = .ok (.iload_n 3, 1) := by decide +kernel
theorem dX8_rowsLike_19 : decode cX8_rowsLike 19 = .ok (.aload_n 0, 1) := by decide +kernel
theorem dX8_rowsLike_20 : decode cX8_rowsLike 20 = .ok (.getfield 18, 3) := by decide +kernel
theorem dX8_rowsLike_23 : decode cX8_rowsLike 23 = .ok (.if_icmp .ge 42, 3) := by decide +kernel
theorem dX8_rowsLike_26 : decode cX8_rowsLike 26 = .ok (.aload_n 0, 1) := by decide +kernel
theorem dX8_rowsLike_27 : decode cX8_rowsLike 27 = .ok (.getfield 9, 3) := by decide +kernel
theorem dX8_rowsLike_30 : decode cX8_rowsLike 30 = .ok (.iload_n 3, 1) := by decide +kernel
theorem dX8_rowsLike_31 : decode cX8_rowsLike 31 = .ok (.iaload, 1) := by decide +kernel
theorem dX8_rowsLike_32 : decode cX8_rowsLike 32 = .ok (.aload_n 0, 1) := by decide +kernel
theorem dX8_rowsLike_33 : decode cX8_rowsLike 33 = .ok (.getfield 9, 3) := by decide +kernel
theorem dX8_rowsLike_36 : decode cX8_rowsLike 36 = .ok (.iload_n 1, 1) := by decide +kernel
theorem dX8_rowsLike_37 : decode cX8_rowsLike 37 = .ok (.iaload, 1) := by decide +kernel
theorem dX8_rowsLike_38 : decode cX8_rowsLike 38 = .ok (.if_icmp .ne 21, 3) := by decide +kernel
theorem dX8_rowsLike_41 : decode cX8_rowsLike 41 = .ok (.aload_n 0, 1) := by decide +kernel
theorem dX8_rowsLike_42 : decode cX8_rowsLike 42 = .ok (.getfield 15, 3) := by decide +kernel
theorem dX8_rowsLike_45 : decode cX8_rowsLike 45 = .ok (.iload_n 3, 1) := by decide +kernel
theorem dX8_rowsLike_46 : decode cX8_rowsLike 46 = .ok (.iaload, 1) := by decide +kernel
theorem dX8_rowsLike_47 : decode cX8_rowsLike 47 = .ok (.aload_n 0, 1) := by decide +kernel
theorem dX8_rowsLike_48 : decode cX8_rowsLike 48 = .ok (.getfield 15, 3) := by decide +kernel
theorem dX8_rowsLike_51 : decode cX8_rowsLike 51 = .ok (.iload_n 1, 1) := by decide +kernel
theorem dX8_rowsLike_52 : decode cX8_rowsLike 52 = .ok (.iaload, 1) := by decide +kernel
theorem dX8_rowsLike_53 : decode cX8_rowsLike 53 = .ok (.if_icmp .ne 6, 3) := by decide +kernel
theorem dX8_rowsLike_56 : decode cX8_rowsLike 56 = .ok (.iinc 2 1, 3) := by decide +kernel
theorem dX8_rowsLike_59 : decode cX8_rowsLike 59 = .ok (.iinc 3 1, 3) := by decide +kernel
theorem dX8_rowsLike_62 : decode cX8_rowsLike 62 = .ok (.goto (-44), 3) := by decide +kernel
theorem dX8_rowsLike_65 : decode cX8_rowsLike 65 = .ok (.iload_n 2, 1) := by decide +kernel
theorem dX8_rowsLike_66 : decode cX8_rowsLike 66 = .ok (.ireturn, 1) := by decide +kernel
theorem dX8_copyFrom_0 : decode cX8_copyFrom 0 = .ok (.aload_n 1, 1) := by decide +kernel
theorem dX8_copyFrom_1 : decode cX8_copyFrom 1 = .ok (.getfield 9, 3) := by decide +kernel
theorem dX8_copyFrom_4 : decode cX8_copyFrom 4 = .ok (.aload_n 0, 1) := by decide +kernel
theorem dX8_copyFrom_5 : decode cX8_copyFrom 5 = .ok (.getfield 9, 3) := by decide +kernel
theorem dX8_copyFrom_8 : decode cX8_copyFrom 8 = .ok (.invokestatic 38, 3) := by decide +kernel
theorem dX8_copyFrom_11 : decode cX8_copyFrom 11 = .ok (.aload_n 1, 1) := by decide +kernel
theorem dX8_copyFrom_12 : decode cX8_copyFrom 12 = .ok (.getfield 15, 3) := by decide +kernel
theorem dX8_copyFrom_15 : decode cX8_copyFrom 15 = .ok (.aload_n 0, 1) := by decide +kernel
theorem dX8_copyFrom_16 : decode cX8_copyFrom 16 = .ok (.getfield 15, 3) := by decide +kernel
theorem dX8_copyFrom_19 : decode cX8_copyFrom 19 = .ok (.invokestatic 38, 3) := by decide +kernel
theorem dX8_copyFrom_22 : decode cX8_copyFrom 22 = .ok (.aload_n 0, 1) := by decide +kernel
theorem dX8_copyFrom_23 : decode cX8_copyFrom 23 = .ok (.aload_n 1, 1) := by decide +kernel
theorem dX8_copyFrom_24 : decode cX8_copyFrom 24 = .ok (.getfield 18, 3) := by decide +kernel
theorem dX8_copyFrom_27 : decode cX8_copyFrom 27 = .ok (.putfield 18, 3) := by decide +kernel
theorem dX8_copyFrom_30 : decode cX8_copyFrom 30 = .ok (.return_, 1) := by decide +kernel
theorem dX9_init_0 : decode cX9_init 0 = .ok (.aload_n 0, 1) := by decide +kernel
theorem dX9_init_1 : decode cX9_init 1 = .ok (.invokespecial 3, 3) := by decide +kernel
theorem dX9_init_4 : decode cX9_init 4 = .ok (.aload_n 0, 1) := by decide +kernel
theorem dX9_init_5 : decode cX9_init 5 = .ok (.new 9, 3) := by decide +kernel
theorem dX9_init_8 : decode cX9_init 8 = .ok (.dup, 1) := by decide +kernel
theorem dX9_init_9 : decode cX9_init 9 = .ok (.invokespecial 11, 3) := by decide +kernel
theorem dX9_init_12 : decode cX9_init 12 = .ok (.putfield 12, 3) := by decide +kernel
theorem dX9_init_15 : decode cX9_init 15 = .ok (.aload_n 0, 1) := by decide +kernel
theorem dX9_init_16 : decode cX9_init 16 = .ok (.iconst 2, 1) := by decide +kernel
theorem dX9_init_17 : decode cX9_init 17 = .ok (.anewarray 9, 3) := by decide +kernel
theorem dX9_init_20 : decode cX9_init 20 = .ok (.putfield 16, 3) := by decide +kernel
theorem dX9_init_23 : decode cX9_init 23 = .ok (.aload_n 0, 1) := by decide +kernel
theorem dX9_init_24 : decode cX9_init 24 = .ok (.new 20, 3) := by decide +kernel
theorem dX9_init_27 : decode cX9_init 27 = .ok (.dup, 1) := by decide +kernel
theorem dX9_init_28 : decode cX9_init 28 = .ok (.invokespecial 22, 3) := by decide +kernel
theorem dX9_init_31 : decode cX9_init 31 = .ok (.putfield 23, 3) := by decide +kernel
theorem dX9_init_34 : decode cX9_init 34 = .ok (.aload_n 0, 1) := by decide +kernel
theorem dX9_init_35 : decode cX9_init 35 = .ok (.new 27, 3) := by decide +kernel
theorem dX9_init_38 : decode cX9_init 38 = .ok (.dup, 1) := by decide +kernel
theorem dX9_init_39 : decode cX9_init 39 = .ok (.invokespecial 29, 3) := by decide +kernel
theorem dX9_init_42 : decode cX9_init 42 = .ok (.putfield 30, 3) := by decide +kernel
theorem dX9_init_45 : decode cX9_init 45 = .ok (.aload_n 0, 1) := by decide +kernel
theorem dX9_init_46 : decode cX9_init 46 = .ok (.new 34, 3) := by decide +kernel
theorem dX9_init_49 : decode cX9_init 49 = .ok (.dup, 1) := by decide +kernel
theorem dX9_init_50 : decode cX9_init 50 = .ok (.aload_n 0, 1) := by decide +kernel
theorem dX9_init_51 : decode cX9_init 51 = .ok (.getfield 30, 3) := by decide +kernel
theorem dX9_init_54 : decode cX9_init 54 = .ok (.invokespecial 36, 3) := by decide +kernel
theorem dX9_init_57 : decode cX9_init 57 = .ok (.putfield 39, 3) := by decide +kernel
theorem dX9_init_60 : decode cX9_init 60 = .ok (.aload_n 0, 1) := by decide +kernel
theorem dX9_init_61 : decode cX9_init 61 = .ok (.new 43, 3) := by decide +kernel
theorem dX9_init_64 : decode cX9_init 64 = .ok (.dup, 1) := by decide +kernel
theorem dX9_init_65 : decode cX9_init 65 = .ok (.invokespecial 45, 3) := by decide +kernel
theorem dX9_init_68 : decode cX9_init 68 = .ok (.putfield 46, 3) := by decide +kernel
theorem dX9_init_71 : decode cX9_init 71 = .ok (.return_, 1) := by decide +kernel
theorem dX9_set_0 : decode cX9_set 0 = .ok (.aload_n 0, 1) := by decide +kernel
theorem dX9_set_1 : decode cX9_set 1 = .ok (.getfield 23, 3) := by decide +kernel
theorem dX9_set_4 : decode cX9_set 4 = .ok (.aload_n 0, 1) := by decide +kernel
theorem dX9_set_5 : decode cX9_set 5 = .ok (.getfield 12, 3) := by decide +kernel
theorem dX9_set_8 : decode cX9_set 8 = .ok (.invokevirtual 50, 3) := by decide +kernel
theorem dX9_set_11 : decode cX9_set 11 = .ok (.aload_n 0, 1) := by decide +kernel
theorem dX9_set_12 : decode cX9_set 12 = .ok (.aload_n 0, 1) := by decide +kernel
theorem dX9_set_13 : decode cX9_set 13 = .ok (.getfield 12, 3) := by decide +kernel
theorem dX9_set_16 : decode cX9_set 16 = .ok (.iload_n 1, 1) := by decide +kernel
theorem dX9_set_17 : decode cX9_set 17 = .ok (.iload_n 2, 1) := by decide +kernel
theorem dX9_set_18 : decode cX9_set 18 = .ok (.invokevirtual 54, 3) := by decide +kernel
theorem dX9_set_21 : decode cX9_set 21 = .ok (.invokevirtual 58, 3) := by decide +kernel
theorem dX9_set_24 : decode cX9_set 24 = .ok (.ireturn, 1) := by decide +kernel
theorem dX9_insert_0 : decode cX9_insert 0 = .ok (.aload_n 0, 1) := by decide +kernel
theorem dX9_insert_1 : decode cX9_insert 1 = .ok (.getfield 23, 3) := by decide +kernel
theorem dX9_insert_4 : decode cX9_insert 4 = .ok (.aload_n 0, 1) := by decide +kernel
theorem dX9_insert_5 : decode cX9_insert 5 = .ok (.getfield 12, 3) := by decide +kernel
theorem dX9_insert_8 : decode cX9_insert 8 = .ok (.invokevirtual 50, 3) := by decide +kernel
theorem dX9_insert_11 : decode cX9_insert 11 = .ok (.aload_n 0, 1) := by decide +kernel
theorem dX9_insert_12 : decode cX9_insert 12 = .ok (.aload_n 0, 1) := by decide +kernel
theorem dX9_insert_13 : decode cX9_insert 13 = .ok (.getfield 12, 3) := by decide +kernel
theorem dX9_insert_16 : decode cX9_insert 16 = .ok (.iload_n 1, 1) := by decide +kernel
theorem dX9_insert_17 : decode cX9_insert 17 = .ok (.iload_n 2, 1) := by decide +kernel
theorem dX9_insert_18 : decode cX9_insert 18 = .ok (.invokevirtual 62, 3) := by decide +kernel
theorem dX9_insert_21 : decode cX9_insert 21 = .ok (.invokevirtual 58, 3) := by decide +kernel
theorem dX9_insert_24 : decode cX9_insert 24 = .ok (.ireturn, 1) := by decide +kernel
theorem dX9_remove_0 : decode cX9_remove 0 = .ok (.aload_n 0, 1) := by decide +kernel
theorem dX9_remove_1 : decode cX9_remove 1 = .ok (.getfield 23, 3) := by decide +kernel
theorem dX9_remove_4 : decode cX9_remove 4 = .ok (.aload_n 0, 1) := by decide +kernel
theorem dX9_remove_5 : decode cX9_remove 5 = .ok (.getfield 12, 3) := by decide +kernel
theorem dX9_remove_8 : decode cX9_remove 8 = .ok (.invokevirtual 50, 3) := by decide +kernel
theorem dX9_remove_11 : decode cX9_remove 11 = .ok (.aload_n 0, 1) := by decide +kernel
theorem dX9_remove_12 : decode cX9_remove 12 = .ok (.aload_n 0, 1) := by decide +kernel
theorem dX9_remove_13 : decode cX9_remove 13 = .ok (.getfield 12, 3) := by decide +kernel
theorem dX9_remove_16 : decode cX9_remove 16 = .ok (.iload_n 1, 1) := by decide +kernel
theorem dX9_remove_17 : decode cX9_remove 17 = .ok (.invokevirtual 65, 3) := by decide +kernel
theorem dX9_remove_20 : decode cX9_remove 20 = .ok (.invokevirtual 58, 3) := by decide +kernel
theorem dX9_remove_23 : decode cX9_remove 23 = .ok (.ireturn, 1) := by decide +kernel
theorem dX9_analyse_0 : decode cX9_analyse 0 = .ok (.aload_n 0, 1) := by decide +kernel
theorem dX9_analyse_1 : decode cX9_analyse 1 = .ok (.getfield 23, 3) := by decide +kernel
theorem dX9_analyse_4 : decode cX9_analyse 4 = .ok (.aload_n 0, 1) := by decide +kernel
theorem dX9_analyse_5 : decode cX9_analyse 5 = .ok (.getfield 12, 3) := by decide +kernel
theorem dX9_analyse_8 : decode cX9_analyse 8 = .ok (.invokevirtual 50, 3) := by decide +kernel
theorem dX9_analyse_11 : decode cX9_analyse 11 = .ok (.aload_n 0, 1) := by decide +kernel
theorem dX9_analyse_12 : decode cX9_analyse 12 = .ok (.aload_n 0, 1) := by decide +kernel
theorem dX9_analyse_13 : decode cX9_analyse 13 = .ok (.getfield 12, 3) := by decide +kernel
theorem dX9_analyse_16 : decode cX9_analyse 16 = .ok (.invokevirtual 68, 3) := by decide +kernel
theorem dX9_analyse_19 : decode cX9_analyse 19 = .ok (.invokevirtual 58, 3) := by decide +kernel
theorem dX9_analyse_22 : decode cX9_analyse 22 = .ok (.ireturn, 1) := by decide +kernel
theorem dX9_bucket_0 : decode cX9_bucket 0 = .ok (.iload_n 1, 1) := by decide +kernel
theorem dX9_bucket_1 : decode cX9_bucket 1 = .ok (.invokestatic 82, 3) := by decide +kernel
theorem dX9_bucket_4 : decode cX9_bucket 4 = .ok (.ifCond .eq 12, 3) := by decide +kernel
theorem dX9_bucket_7 : decode cX9_bucket 7 = .ok (.iload_n 3, 1) := by decide +kernel
theorem dX9_bucket_8 : decode cX9_bucket 8 = .ok (.iconst 0, 1) := by decide +kernel
theorem dX9_bucket_9 : decode cX9_bucket 9 = .ok (.iconst 3, 1) := by decide +kernel
theorem dX9_bucket_10 : decode cX9_bucket 10 = .ok (.invokestatic 88, 3) := by decide +kernel
theorem dX9_bucket_13 : decode cX9_bucket 13 = .ok (.ifCond .ne 6, 3) := by decide +kernel
theorem dX9_bucket_16 : decode cX9_bucket 16 = .ok (.bipush (-2), 2) := by decide +kernel
theorem dX9_bucket_18 : decode cX9_bucket 18 = .ok (.ireturn, 1) := by decide +kernel
theorem dX9_bucket_19 : decode cX9_bucket 19 = .ok (.aload_n 0, 1) := by decide +kernel
theorem dX9_bucket_20 : decode cX9_bucket 20 = .ok (.getfield 12, 3) := by decide +kernel
theorem dX9_bucket_23 : decode cX9_bucket 23 = .ok (.getfield 92, 3) := by decide +kernel
theorem dX9_bucket_26 : decode cX9_bucket 26 = .ok (.iload_n 1, 1) := by decide +kernel
theorem dX9_bucket_27 : decode cX9_bucket 27 = .ok (.invokevirtual 96, 3) := by decide +kernel
theorem dX9_bucket_30 : decode cX9_bucket 30 = .ok (.iload_n 2, 1) := by decide +kernel
theorem dX9_bucket_31 : decode cX9_bucket 31 = .ok (.iload_n 3, 1) := by decide +kernel
theorem dX9_bucket_32 : decode cX9_bucket 32 = .ok (.invokevirtual 102, 3) := by decide +kernel
theorem dX9_bucket_35 : decode cX9_bucket 35 = .ok (.ireturn, 1) := by decide +kernel
theorem dX9_common_0 : decode cX9_common 0 = .ok (.iload_n 1, 1) := by decide +kernel
theorem dX9_common_1 : decode cX9_common 1 = .ok (.invokestatic 82, 3) := by decide +kernel
theorem dX9_common_4 : decode cX9_common 4 = .ok (.ifCond .eq 12, 3) := by decide +kernel
theorem dX9_common_7 : decode cX9_common 7 = .ok (.iload_n 3, 1) := by decide +kernel
theorem dX9_common_8 : decode cX9_common 8 = .ok (.iconst 0, 1) := by decide +kernel
theorem dX9_common_9 : decode cX9_common 9 = .ok (.iconst 1, 1) := by decide +kernel
theorem dX9_common_10 : decode cX9_common 10 = .ok (.invokestatic 88, 3) := by decide +kernel
theorem dX9_common_13 : decode cX9_common 13 = .ok (.ifCond .ne 6, 3) := by decide +kernel
theorem dX9_common_16 : decode cX9_common 16 = .ok (.bipush (-2), 2) := by decide +kernel
theorem dX9_common_18 : decode cX9_common 18 = .ok (.ireturn, 1) := by decide +kernel
theorem dX9_common_19 : decode cX9_common 19 = .ok (.aload_n 0, 1) := by decide +kernel
theorem dX9_common_20 : decode cX9_common 20 = .ok (.getfield 12, 3) := by decide +kernel
theorem dX9_common_23 : decode cX9_common 23 = .ok (.getfield 92, 3) := by decide +kernel
theorem dX9_common_26 : decode cX9_common 26 = .ok (.iload_n 1, 1) := by decide +kernel
theorem dX9_common_27 : decode cX9_common 27 = .ok (.invokevirtual 96, 3) := by decide +kernel
theorem dX9_common_30 : decode cX9_common 30 = .ok (.iload_n 2, 1) := by decide +kernel
theorem dX9_common_31 : decode cX9_common 31 = .ok (.iload_n 3, 1) := by decide +kernel
theorem dX9_common_32 : decode cX9_common 32 = .ok (.invokevirtual 105, 3) := by decide +kernel
theorem dX9_common_35 : decode cX9_common 35 = .ok (.ireturn, 1) := by decide +kernel
theorem dX9_count_0 : decode cX9_count 0 = .ok (.aload_n 0, 1) := by decide +kernel
theorem dX9_count_1 : decode cX9_count 1 = .ok (.getfield 12, 3) := by decide +kernel
theorem dX9_count_4 : decode cX9_count 4 = .ok (.getfield 92, 3) := by decide +kernel
theorem dX9_count_7 : decode cX9_count 7 = .ok (.astore_n 2, 1) := by decide +kernel
theorem dX9_count_8 : decode cX9_count 8 = .ok (.iload_n 1, 1) := by decide +kernel
theorem dX9_count_9 : decode cX9_count 9 = .ok (.tableswitch 197 0 14 #[75, 86, 91, 96, 101, 110, 119, 128, 137, 145, 154, 163, 172, 181, 189], 75) := by decide +kernel
theorem dX9_count_84 : decode cX9_count 84 = .ok (.aload_n 0, 1) := by decide +kernel
theorem dX9_count_85 : decode cX9_count 85 = .ok (.getfield 12, 3) := by decide +kernel
theorem dX9_count_88 : decode cX9_count 88 = .ok (.getfield 72, 3) := by decide +kernel
theorem dX9_count_91 : decode cX9_count 91 = .ok (.getfield 117, 3) := by decide +kernel
theorem dX9_count_94 : decode cX9_count 94 = .ok (.ireturn, 1) := by decide +kernel
theorem dX9_count_95 : decode cX9_count 95 = .ok (.aload_n 2, 1) := by decide +kernel
theorem dX9_count_96 : decode cX9_count 96 = .ok (.getfield 121, 3) := by decide +kernel
theorem dX9_count_99 : decode cX9_count 99 = .ok (.ireturn, 1) := by decide +kernel
theorem dX9_count_100 : decode cX9_count 100 = .ok (.aload_n 2, 1) := by decide +kernel
theorem dX9_count_101 : decode cX9_count 101 = .ok (.getfield 124, 3) := by decide +kernel
theorem dX9_count_104 : decode cX9_count 104 = .ok (.ireturn, 1) := by decide +kernel
theorem dX9_count_105 : decode cX9_count 105 = .ok (.aload_n 0, 1) := by decide +kernel
theorem dX9_count_106 : decode cX9_count 106 = .ok (.invokevirtual 127, 3) := by decide +kernel
theorem dX9_count_109 : decode cX9_count 109 = .ok (.ireturn, 1) := by decide +kernel
theorem dX9_count_110 : decode cX9_count 110 = .ok (.aload_n 2, 1) := by decide +kernel
theorem dX9_count_111 : decode cX9_count 111 = .ok (.iconst 0, 1) := by decide +kernel
theorem dX9_count_112 : decode cX9_count 112 = .ok (.invokevirtual 96, 3) := by decide +kernel
theorem dX9_count_115 : decode cX9_count 115 = .ok (.getfield 130, 3) := by decide +kernel
theorem dX9_count_118 : decode cX9_count 118 = .ok (.ireturn, 1) := by decide +kernel
theorem dX9_count_119 : decode cX9_count 119 = .ok (.aload_n 2, 1) := by decide +kernel
theorem dX9_count_120 : decode cX9_count 120 = .ok (.iconst 1, 1) := by decide +kernel
theorem dX9_count_121 : decode cX9_count 121 = .ok (.invokevirtual 96, 3) := by decide +kernel
theorem dX9_count_124 : decode cX9_count 124 = .ok (.getfield 130, 3) := by decide +kernel
theorem dX9_count_127 : decode cX9_count 127 = .ok (.ireturn, 1) := by decide +kernel
theorem dX9_count_128 : decode cX9_count 128 = .ok (.aload_n 2, 1) := by decide +kernel
theorem dX9_count_129 : decode cX9_count 129 = .ok (.iconst 0, 1) := by decide +kernel
theorem dX9_count_130 : decode cX9_count 130 = .ok (.invokevirtual 96, 3) := by decide +kernel
theorem dX9_count_133 : decode cX9_count 133 = .ok (.getfield 133, 3) := by decide +kernel
theorem dX9_count_136 : decode cX9_count 136 = .ok (.ireturn, 1) := by decide +kernel
theorem dX9_count_137 : decode cX9_count 137 = .ok (.aload_n 2, 1) := by decide +kernel
theorem dX9_count_138 : decode cX9_count 138 = .ok (.iconst 1, 1) := by decide +kernel
theorem dX9_count_139 : decode cX9_count 139 = .ok (.invokevirtual 96, 3) := by decide +kernel
theorem dX9_count_142 : decode cX9_count 142 = .ok (.getfield 133, 3) := by decide +kernel
theorem dX9_count_145 : decode cX9_count 145 = .ok (.ireturn, 1) := by decide +kernel
theorem dX9_count_146 : decode cX9_count 146 = .ok (.aload_n 2, 1) := by decide +kernel
theorem dX9_count_147 : decode cX9_count 147 = .ok (.getfield 108, 3) := by decide +kernel
theorem dX9_count_150 : decode cX9_count 150 = .ok (.getfield 136, 3) := by decide +kernel
theorem dX9_count_153 : decode cX9_count 153 = .ok (.ireturn, 1) := by decide +kernel
theorem dX9_count_154 : decode cX9_count 154 = .ok (.aload_n 0, 1) := by decide +kernel
theorem dX9_count_155 : decode cX9_count 155 = .ok (.getfield 12, 3) := by decide +kernel
theorem dX9_count_158 : decode cX9_count 158 = .ok (.iconst 0, 1) := by decide +kernel
theorem dX9_count_159 : decode cX9_count 159 = .ok (.invokevirtual 138, 3) := by decide +kernel
theorem dX9_count_162 : decode cX9_count 162 = .ok (.ireturn, 1) := by decide +kernel
theorem dX9_count_163 : decode cX9_count 163 = .ok (.aload_n 0, 1) := by decide +kernel
theorem dX9_count_164 : decode cX9_count 164 = .ok (.getfield 12, 3) := by decide +kernel
theorem dX9_count_167 : decode cX9_count 167 = .ok (.iconst 1, 1) := by decide +kernel
theorem dX9_count_168 : decode cX9_count 168 = .ok (.invokevirtual 138, 3) := by decide +kernel
theorem dX9_count_171 : decode cX9_count 171 = .ok (.ireturn, 1) := by decide +kernel
theorem dX9_count_172 : decode cX9_count 172 = .ok (.aload_n 0, 1) := by decide +kernel
theorem dX9_count_173 : decode cX9_count 173 = .ok (.getfield 12, 3) := by decide +kernel
theorem dX9_count_176 : decode cX9_count 176 = .ok (.iconst 2, 1) := by decide +kernel
theorem dX9_count_177 : decode cX9_count 177 = .ok (.invokevirtual 138, 3) := by decide +kernel
theorem dX9_count_180 : decode cX9_count 180 = .ok (.ireturn, 1) := by decide +kernel
theorem dX9_count_181 : decode cX9_count 181 = .ok (.aload_n 0, 1) := by decide +kernel
theorem dX9_count_182 : decode cX9_count 182 = .ok (.getfield 12, 3) := by decide +kernel
theorem dX9_count_185 : decode cX9_count 185 = .ok (.iconst 3, 1) := by decide +kernel
theorem dX9_count_186 : decode cX9_count 186 = .ok (.invokevirtual 138, 3) := by decide +kernel
theorem dX9_count_189 : decode cX9_count 189 = .ok (.ireturn, 1) := by decide +kernel
theorem dX9_count_190 : decode cX9_count 190 = .ok (.aload_n 0, 1) := by decide +kernel
theorem dX9_count_191 : decode cX9_count 191 = .ok (.getfield 30, 3) := by decide +kernel
theorem dX9_count_194 : decode cX9_count 194 = .ok (.getfield 141, 3) := by decide +kernel
theorem dX9_count_197 : decode cX9_count 197 = .ok (.ireturn, 1) := by decide +kernel
theorem dX9_count_198 : decode cX9_count 198 = .ok (.aload_n 0, 1) := by decide +kernel
theorem dX9_count_199 : decode cX9_count 199 = .ok (.getfield 23, 3) := by decide +kernel
theorem dX9_count_202 : decode cX9_count 202 = .ok (.getfield 144, 3) := by decide +kernel
theorem dX9_count_205 : decode cX9_count 205 = .ok (.ireturn, 1) := by decide +kernel
theorem dX9_count_206 : decode cX9_count 206 = .ok (.bipush (-2), 2) := by decide +kernel
theorem dX9_count_208 : decode cX9_count 208 = .ok (.ireturn, 1) := by decide +kernel
theorem dX9_tellStale_0 : decode cX9_tellStale 0 = .ok (.aload_n 0, 1) := by decide +kernel
theorem dX9_tellStale_1 : decode cX9_tellStale 1 = .ok (.getfield 12, 3) := by decide +kernel
theorem dX9_tellStale_4 : decode cX9_tellStale 4 = .ok (.getfield 92, 3) := by decide +kernel
theorem dX9_tellStale_7 : decode cX9_tellStale 7 = .ok (.invokevirtual 147, 3) := by decide +kernel
theorem dX9_tellStale_10 : decode cX9_tellStale 10 = .ok (.ifCond .ne 6, 3) := by decide +kernel
theorem dX9_tellStale_13 : decode cX9_tellStale 13 = .ok (.bipush (-6), 2) := by decide +kernel
theorem dX9_tellStale_15 : decode cX9_tellStale 15 = .ok (.ireturn, 1) := by decide +kernel
theorem dX9_tellStale_16 : decode cX9_tellStale 16 = .ok (.aload_n 0, 1) := by decide +kernel
theorem dX9_tellStale_17 : decode cX9_tellStale 17 = .ok (.getfield 12, 3) := by decide +kernel
theorem dX9_tellStale_20 : decode cX9_tellStale 20 = .ok (.getfield 92, 3) := by decide +kernel
theorem dX9_tellStale_23 : decode cX9_tellStale 23 = .ok (.aload_n 0, 1) := by decide +kernel
theorem dX9_tellStale_24 : decode cX9_tellStale 24 = .ok (.getfield 12, 3) := by decide +kernel
theorem dX9_tellStale_27 : decode cX9_tellStale 27 = .ok (.iconst 3, 1) := by decide +kernel
theorem dX9_tellStale_28 : decode cX9_tellStale 28 = .ok (.invokevirtual 138, 3) := by decide +kernel
theorem dX9_tellStale_31 : decode cX9_tellStale 31 = .ok (.invokevirtual 151, 3) := by decide +kernel
theorem dX9_tellStale_34 : decode cX9_tellStale 34 = .ok (.ifCond .eq 7, 3) := by decide +kernel
theorem dX9_tellStale_37 : decode cX9_tellStale 37 = .ok (.iconst 1, 1) := by decide +kernel
theorem dX9_tellStale_38 : decode cX9_tellStale 38 = .ok (.goto 4, 3) := by decide +kernel
theorem dX9_tellStale_41 : decode cX9_tellStale 41 = .ok (.iconst 0, 1) := by decide +kernel
theorem dX9_tellStale_42 : decode cX9_tellStale 42 = .ok (.ireturn, 1) := by decide +kernel
theorem dX9_estimate_0 : decode cX9_estimate 0 = .ok (.iload_n 1, 1) := by decide +kernel
theorem dX9_estimate_1 : decode cX9_estimate 1 = .ok (.invokestatic 82, 3) := by decide +kernel
theorem dX9_estimate_4 : decode cX9_estimate 4 = .ok (.ifCond .eq 21, 3) := by decide +kernel
theorem dX9_estimate_7 : decode cX9_estimate 7 = .ok (.iload_n 2, 1) := by decide +kernel
theorem dX9_estimate_8 : decode cX9_estimate 8 = .ok (.iload_n 3, 1) := by decide +kernel
theorem dX9_estimate_9 : decode cX9_estimate 9 = .ok (.invokestatic 154, 3) := by decide +kernel
theorem dX9_estimate_12 : decode cX9_estimate 12 = .ok (.ifCond .eq 13, 3) := by decide +kernel
theorem dX9_estimate_15 : decode cX9_estimate 15 = .ok (.iload 4, 2) := by decide +kernel
theorem dX9_estimate_17 : decode cX9_estimate 17 = .ok (.iconst 0, 1) := by decide +kernel
theorem dX9_estimate_18 : decode cX9_estimate 18 = .ok (.iconst 4, 1) := by decide +kernel
theorem dX9_estimate_19 : decode cX9_estimate 19 = .ok (.invokestatic 88, 3) := by decide +kernel
theorem dX9_estimate_22 : decode cX9_estimate 22 = .ok (.ifCond .ne 6, 3) := by decide +kernel
theorem dX9_estimate_25 : decode cX9_estimate 25 = .ok (.bipush (-2), 2) := by decide +kernel
theorem dX9_estimate_27 : decode cX9_estimate 27 = .ok (.ireturn, 1) := by decide +kernel
theorem dX9_estimate_28 : decode cX9_estimate 28 = .ok (.iload 4, 2) := by decide +kernel
theorem dX9_estimate_30 : decode cX9_estimate 30 = .ok (.iconst 4, 1) := by decide +kernel
theorem dX9_estimate_31 : decode cX9_estimate 31 = .ok (.if_icmp .ne 17, 3) := by decide +kernel
theorem dX9_estimate_34 : decode cX9_estimate 34 = .ok (.aload_n 0, 1) := by decide +kernel
theorem dX9_estimate_35 : decode cX9_estimate 35 = .ok (.getfield 12, 3) := by decide +kernel
theorem dX9_estimate_38 : decode cX9_estimate 38 = .ok (.getfield 72, 3) := by decide +kernel
theorem dX9_estimate_41 : decode cX9_estimate 41 = .ok (.iload_n 1, 1) := by decide +kernel
theorem dX9_estimate_42 : decode cX9_estimate 42 = .ok (.iload_n 2, 1) := by decide +kernel
theorem dX9_estimate_43 : decode cX9_estimate 43 = .ok (.iload_n 3, 1) := by decide +kernel
theorem dX9_estimate_44 : decode cX9_estimate 44 = .ok (.invokevirtual 158, 3) := by decide +kernel
theorem dX9_estimate_47 : decode cX9_estimate 47 = .ok (.ireturn, 1) := by decide +kernel
theorem dX9_estimate_48 : decode cX9_estimate 48 = .ok (.aload_n 0, 1) := by decide +kernel
theorem dX9_estimate_49 : decode cX9_estimate 49 = .ok (.getfield 12, 3) := by decide +kernel
theorem dX9_estimate_52 : decode cX9_estimate 52 = .ok (.getfield 92, 3) := by decide +kernel
theorem dX9_estimate_55 : decode cX9_estimate 55 = .ok (.invokevirtual 147, 3) := by decide +kernel
theorem dX9_estimate_58 : decode cX9_estimate 58 = .ok (.ifCond .ne 6, 3) := by decide +kernel
theorem dX9_estimate_61 : decode cX9_estimate 61 = .ok (.bipush (-6), 2) := by decide +kernel
theorem dX9_estimate_63 : decode cX9_estimate 63 = .ok (.ireturn, 1) := by decide +kernel
theorem dX9_estimate_64 : decode cX9_estimate 64 = .ok (.aload_n 0, 1) := by decide +kernel
theorem dX9_estimate_65 : decode cX9_estimate 65 = .ok (.getfield 12, 3) := by decide +kernel
theorem dX9_estimate_68 : decode cX9_estimate 68 = .ok (.getfield 92, 3) := by decide +kernel
theorem dX9_estimate_71 : decode cX9_estimate 71 = .ok (.iload_n 1, 1) := by decide +kernel
theorem dX9_estimate_72 : decode cX9_estimate 72 = .ok (.invokevirtual 96, 3) := by decide +kernel
theorem dX9_estimate_75 : decode cX9_estimate 75 = .ok (.astore 5, 2) := by decide +kernel
theorem dX9_estimate_77 : decode cX9_estimate 77 = .ok (.iload 4, 2) := by decide +kernel
theorem dX9_estimate_79 : decode cX9_estimate 79 = .ok (.tableswitch 49 0 2 #[25, 33, 41], 25) := by decide +kernel
theorem dX9_estimate_104 : decode cX9_estimate 104 = .ok (.aload 5, 2) := by decide +kernel
theorem dX9_estimate_106 : decode cX9_estimate 106 = .ok (.iload_n 2, 1) := by decide +kernel
theorem dX9_estimate_107 : decode cX9_estimate 107 = .ok (.iload_n 3, 1) := by decide +kernel
theorem dX9_estimate_108 : decode cX9_estimate 108 = .ok (.invokevirtual 162, 3) := by decide +kernel
theorem dX9_estimate_111 : decode cX9_estimate 111 = .ok (.ireturn, 1) := by decide +kernel
theorem dX9_estimate_112 : decode cX9_estimate 112 = .ok (.aload 5, 2) := by decide +kernel
theorem dX9_estimate_114 : decode cX9_estimate 114 = .ok (.iload_n 2, 1) := by decide +kernel
theorem dX9_estimate_115 : decode cX9_estimate 115 = .ok (.iload_n 3, 1) := by decide +kernel
theorem dX9_estimate_116 : decode cX9_estimate 116 = .ok (.invokevirtual 165, 3) := by decide +kernel
theorem dX9_estimate_119 : decode cX9_estimate 119 = .ok (.ireturn, 1) := by decide +kernel
theorem dX9_estimate_120 : decode cX9_estimate 120 = .ok (.aload 5, 2) := by decide +kernel
theorem dX9_estimate_122 : decode cX9_estimate 122 = .ok (.iload_n 2, 1) := by decide +kernel
theorem dX9_estimate_123 : decode cX9_estimate 123 = .ok (.iload_n 3, 1) := by decide +kernel
theorem dX9_estimate_124 : decode cX9_estimate 124 = .ok (.invokevirtual 168, 3) := by decide +kernel
theorem dX9_estimate_127 : decode cX9_estimate 127 = .ok (.ireturn, 1) := by decide +kernel
theorem dX9_estimate_128 : decode cX9_estimate 128 = .ok (.aload_n 0, 1) := by decide +kernel
theorem dX9_estimate_129 : decode cX9_estimate 129 = .ok (.getfield 12, 3) := by decide +kernel
theorem dX9_estimate_132 : decode cX9_estimate 132 = .ok (.aload 5, 2) := by decide +kernel
theorem dX9_estimate_134 : decode cX9_estimate 134 = .ok (.iload_n 2, 1) := by decide +kernel
theorem dX9_estimate_135 : decode cX9_estimate 135 = .ok (.iload_n 3, 1) := by decide +kernel
theorem dX9_estimate_136 : decode cX9_estimate 136 = .ok (.invokevirtual 162, 3) := by decide +kernel
theorem dX9_estimate_139 : decode cX9_estimate 139 = .ok (.invokevirtual 171, 3) := by decide +kernel
theorem dX9_estimate_142 : decode cX9_estimate 142 = .ok (.ireturn, 1) := by decide +kernel
theorem dX9_both_0 : decode cX9_both 0 = .ok (.iload_n 1, 1) := by decide +kernel
theorem dX9_both_1 : decode cX9_both 1 = .ok (.iload_n 2, 1) := by decide +kernel
theorem dX9_both_2 : decode cX9_both 2 = .ok (.invokestatic 154, 3) := by decide +kernel
theorem dX9_both_5 : decode cX9_both 5 = .ok (.ifCond .eq 22, 3) := by decide +kernel
theorem dX9_both_8 : decode cX9_both 8 = .ok (.iload_n 3, 1) := by decide +kernel
theorem dX9_both_9 : decode cX9_both 9 = .ok (.iload 4, 2) := by decide +kernel
theorem dX9_both_11 : decode cX9_both 11 = .ok (.invokestatic 154, 3) := by decide +kernel
theorem dX9_both_14 : decode cX9_both 14 = .ok (.ifCond .eq 13, 3) := by decide +kernel
theorem dX9_both_17 : decode cX9_both 17 = .ok (.iload 5, 2) := by decide +kernel
theorem dX9_both_19 : decode cX9_both 19 = .ok (.iconst 0, 1) := by decide +kernel
theorem dX9_both_20 : decode cX9_both 20 = .ok (.iconst 2, 1) := by decide +kernel
theorem dX9_both_21 : decode cX9_both 21 = .ok (.invokestatic 88, 3) := by decide +kernel
theorem dX9_both_24 : decode cX9_both 24 = .ok (.ifCond .ne 6, 3) := by decide +kernel
theorem dX9_both_27 : decode cX9_both 27 = .ok (.bipush (-2), 2) := by decide +kernel
theorem dX9_both_29 : decode cX9_both 29 = .ok (.ireturn, 1) := by decide +kernel
theorem dX9_both_30 : decode cX9_both 30 = .ok (.iload 5, 2) := by decide +kernel
theorem dX9_both_32 : decode cX9_both 32 = .ok (.iconst 2, 1) := by decide +kernel
theorem dX9_both_33 : decode cX9_both 33 = .ok (.if_icmp .ne 19, 3) := by decide +kernel
theorem dX9_both_36 : decode cX9_both 36 = .ok (.aload_n 0, 1) := by decide +kernel
theorem dX9_both_37 : decode cX9_both 37 = .ok (.getfield 12, 3) := by decide +kernel
theorem dX9_both_40 : decode cX9_both 40 = .ok (.getfield 72, 3) := by decide +kernel
theorem dX9_both_43 : decode cX9_both 43 = .ok (.iload_n 1, 1) := by decide +kernel
theorem dX9_both_44 : decode cX9_both 44 = .ok (.iload_n 2, 1) := by decide +kernel
theorem dX9_both_45 : decode cX9_both 45 = .ok (.iload_n 3, 1) := by decide +kernel
theorem dX9_both_46 : decode cX9_both 46 = .ok (.iload 4, 2) := by decide +kernel
theorem dX9_both_48 : decode cX9_both 48 = .ok (.invokevirtual 174, 3) := by decide +kernel
theorem dX9_both_51 : decode cX9_both 51 = .ok (.ireturn, 1) := by decide +kernel
theorem dX9_both_52 : decode cX9_both 52 = .ok (.aload_n 0, 1) := by decide +kernel
theorem dX9_both_53 : decode cX9_both 53 = .ok (.getfield 12, 3) := by decide +kernel
theorem dX9_both_56 : decode cX9_both 56 = .ok (.getfield 92, 3) := by decide +kernel
theorem dX9_both_59 : decode cX9_both 59 = .ok (.invokevirtual 147, 3) := by decide +kernel
theorem dX9_both_62 : decode cX9_both 62 = .ok (.ifCond .ne 6, 3) := by decide +kernel
theorem dX9_both_65 : decode cX9_both 65 = .ok (.bipush (-6), 2) := by decide +kernel
theorem dX9_both_67 : decode cX9_both 67 = .ok (.ireturn, 1) := by decide +kernel
theorem dX9_both_68 : decode cX9_both 68 = .ok (.aload_n 0, 1) := by decide +kernel
theorem dX9_both_69 : decode cX9_both 69 = .ok (.getfield 12, 3) := by decide +kernel
theorem dX9_both_72 : decode cX9_both 72 = .ok (.getfield 92, 3) := by decide +kernel
theorem dX9_both_75 : decode cX9_both 75 = .ok (.iload_n 1, 1) := by decide +kernel
theorem dX9_both_76 : decode cX9_both 76 = .ok (.iload_n 2, 1) := by decide +kernel
theorem dX9_both_77 : decode cX9_both 77 = .ok (.iload_n 3, 1) := by decide +kernel
theorem dX9_both_78 : decode cX9_both 78 = .ok (.iload 4, 2) := by decide +kernel
theorem dX9_both_80 : decode cX9_both 80 = .ok (.invokevirtual 178, 3) := by decide +kernel
theorem dX9_both_83 : decode cX9_both 83 = .ok (.istore 6, 2) := by decide +kernel
theorem dX9_both_85 : decode cX9_both 85 = .ok (.iload 5, 2) := by decide +kernel
theorem dX9_both_87 : decode cX9_both 87 = .ok (.ifCond .ne 8, 3) := by decide +kernel
theorem dX9_both_90 : decode cX9_both 90 = .ok (.iload 6, 2) := by decide +kernel
theorem dX9_both_92 : decode cX9_both 92 = .ok (.goto 12, 3) := by decide +kernel
theorem dX9_both_95 : decode cX9_both 95 = .ok (.aload_n 0, 1) := by decide +kernel
theorem dX9_both_96 : decode cX9_both 96 = .ok (.getfield 12, 3) := by decide +kernel
theorem dX9_both_99 : decode cX9_both 99 = .ok (.iload 6, 2) := by decide +kernel
theorem dX9_both_101 : decode cX9_both 101 = .ok (.invokevirtual 171, 3) := by decide +kernel
theorem dX9_both_104 : decode cX9_both 104 = .ok (.ireturn, 1) := by decide +kernel
theorem dX9_share_0 : decode cX9_share 0 = .ok (.iload_n 1, 1) := by decide +kernel
theorem dX9_share_1 : decode cX9_share 1 = .ok (.invokestatic 82, 3) := by decide +kernel
theorem dX9_share_4 : decode cX9_share 4 = .ok (.ifCond .eq 11, 3) := by decide +kernel
theorem dX9_share_7 : decode cX9_share 7 = .ok (.iload_n 2, 1) := by decide +kernel
theorem dX9_share_8 : decode cX9_share 8 = .ok (.iload_n 3, 1) := by decide +kernel
theorem dX9_share_9 : decode cX9_share 9 = .ok (.invokestatic 154, 3) := by decide +kernel
theorem dX9_share_12 : decode cX9_share 12 = .ok (.ifCond .ne 6, 3) := by decide +kernel
theorem dX9_share_15 : decode cX9_share 15 = .ok (.bipush (-2), 2) := by decide +kernel
theorem dX9_share_17 : decode cX9_share 17 = .ok (.ireturn, 1) := by decide +kernel
theorem dX9_share_18 : decode cX9_share 18 = .ok (.aload_n 0, 1) := by decide +kernel
theorem dX9_share_19 : decode cX9_share 19 = .ok (.getfield 12, 3) := by decide +kernel
theorem dX9_share_22 : decode cX9_share 22 = .ok (.getfield 92, 3) := by decide +kernel
theorem dX9_share_25 : decode cX9_share 25 = .ok (.getfield 121, 3) := by decide +kernel
theorem dX9_share_28 : decode cX9_share 28 = .ok (.istore 4, 2) := by decide +kernel
theorem dX9_share_30 : decode cX9_share 30 = .ok (.iload 4, 2) := by decide +kernel
theorem dX9_share_32 : decode cX9_share 32 = .ok (.ifCond .gt 6, 3) := by decide +kernel
theorem dX9_share_35 : decode cX9_share 35 = .ok (.bipush (-6), 2) := by decide +kernel
theorem dX9_share_37 : decode cX9_share 37 = .ok (.ireturn, 1) := by decide +kernel
theorem dX9_share_38 : decode cX9_share 38 = .ok (.aload_n 0, 1) := by decide +kernel
theorem dX9_share_39 : decode cX9_share 39 = .ok (.getfield 12, 3) := by decide +kernel
theorem dX9_share_42 : decode cX9_share 42 = .ok (.getfield 92, 3) := by decide +kernel
theorem dX9_share_45 : decode cX9_share 45 = .ok (.iload_n 1, 1) := by decide +kernel
theorem dX9_share_46 : decode cX9_share 46 = .ok (.invokevirtual 96, 3) := by decide +kernel
theorem dX9_share_49 : decode cX9_share 49 = .ok (.iload_n 2, 1) := by decide +kernel
theorem dX9_share_50 : decode cX9_share 50 = .ok (.iload_n 3, 1) := by decide +kernel
theorem dX9_share_51 : decode cX9_share 51 = .ok (.invokevirtual 162, 3) := by decide +kernel
theorem dX9_share_54 : decode cX9_share 54 = .ok (.i2d, 1) := by decide +kernel
theorem dX9_share_55 : decode cX9_share 55 = .ok (.iload 4, 2) := by decide +kernel
theorem dX9_share_57 : decode cX9_share 57 = .ok (.i2d, 1) := by decide +kernel
theorem dX9_share_58 : decode cX9_share 58 = .ok (.ddiv, 1) := by decide +kernel
theorem dX9_share_59 : decode cX9_share 59 = .ok (.dstore 5, 2) := by decide +kernel
theorem dX9_share_61 : decode cX9_share 61 = .ok (.dload 5, 2) := by decide +kernel
theorem dX9_share_63 : decode cX9_share 63 = .ok (.d2f, 1) := by decide +kernel
theorem dX9_share_64 : decode cX9_share 64 = .ok (.invokestatic 181, 3) := by decide +kernel
theorem dX9_share_67 : decode cX9_share 67 = .ok (.ireturn, 1) := by decide +kernel
theorem dX9_height_0 : decode cX9_height 0 = .ok (.iload_n 1, 1) := by decide +kernel
theorem dX9_height_1 : decode cX9_height 1 = .ok (.invokestatic 82, 3) := by decide +kernel
theorem dX9_height_4 : decode cX9_height 4 = .ok (.ifCond .ne 7, 3) := by decide +kernel
theorem dX9_height_7 : decode cX9_height 7 = .ok (.ldc2_w 187, 3) := by decide +kernel
theorem dX9_height_10 : decode cX9_height 10 = .ok (.lreturn, 1) := by decide +kernel
theorem dX9_height_11 : decode cX9_height 11 = .ok (.aload_n 0, 1) := by decide +kernel
theorem dX9_height_12 : decode cX9_height 12 = .ok (.getfield 12, 3) := by decide +kernel
theorem dX9_height_15 : decode cX9_height 15 = .ok (.getfield 92, 3) := by decide +kernel
theorem dX9_height_18 : decode cX9_height 18 = .ok (.iload_n 1, 1) := by decide +kernel
theorem dX9_height_19 : decode cX9_height 19 = .ok (.invokevirtual 96, 3) := by decide +kernel
theorem dX9_height_22 : decode cX9_height 22 = .ok (.astore_n 2, 1) := by decide +kernel
theorem dX9_height_23 : decode cX9_height 23 = .ok (.aload_n 2, 1) := by decide +kernel
theorem dX9_height_24 : decode cX9_height 24 = .ok (.getfield 130, 3) := by decide +kernel
theorem dX9_height_27 : decode cX9_height 27 = .ok (.ifCond .gt 5, 3) := by decide +kernel
theorem dX9_height_30 : decode cX9_height 30 = .ok (.lconst 0, 1) := by decide +kernel
theorem dX9_height_31 : decode cX9_height 31 = .ok (.lreturn, 1) := by decide +kernel
theorem dX9_height_32 : decode cX9_height 32 = .ok (.aload_n 2, 1) := by decide +kernel
theorem dX9_height_33 : decode cX9_height 33 = .ok (.invokevirtual 189, 3) := by decide +kernel
theorem dX9_height_36 : decode cX9_height 36 = .ok (.i2d, 1) := by decide +kernel
theorem dX9_height_37 : decode cX9_height 37 = .ok (.aload_n 2, 1) := by decide +kernel
theorem dX9_height_38 : decode cX9_height 38 = .ok (.getfield 130, 3) := by decide +kernel
theorem dX9_height_41 : decode cX9_height 41 = .ok (.i2d, 1) := by decide +kernel
theorem dX9_height_42 : decode cX9_height 42 = .ok (.ddiv, 1) := by decide +kernel
theorem dX9_height_43 : decode cX9_height 43 = .ok (.invokestatic 192, 3) := by decide +kernel
theorem dX9_height_46 : decode cX9_height 46 = .ok (.lreturn, 1) := by decide +kernel
theorem dX9_worst_0 : decode cX9_worst 0 = .ok (.iload_n 1, 1) := by decide +kernel
theorem dX9_worst_1 : decode cX9_worst 1 = .ok (.invokestatic 82, 3) := by decide +kernel
theorem dX9_worst_4 : decode cX9_worst 4 = .ok (.ifCond .eq 12, 3) := by decide +kernel
theorem dX9_worst_7 : decode cX9_worst 7 = .ok (.iload_n 2, 1) := by decide +kernel
theorem dX9_worst_8 : decode cX9_worst 8 = .ok (.iconst 0, 1) := by decide +kernel
theorem dX9_worst_9 : decode cX9_worst 9 = .ok (.iconst 1, 1) := by decide +kernel
theorem dX9_worst_10 : decode cX9_worst 10 = .ok (.invokestatic 88, 3) := by decide +kernel
theorem dX9_worst_13 : decode cX9_worst 13 = .ok (.ifCond .ne 6, 3) := by decide +kernel
theorem dX9_worst_16 : decode cX9_worst 16 = .ok (.bipush (-2), 2) := by decide +kernel
theorem dX9_worst_18 : decode cX9_worst 18 = .ok (.ireturn, 1) := by decide +kernel
theorem dX9_worst_19 : decode cX9_worst 19 = .ok (.aload_n 0, 1) := by decide +kernel
theorem dX9_worst_20 : decode cX9_worst 20 = .ok (.getfield 12, 3) := by decide +kernel
theorem dX9_worst_23 : decode cX9_worst 23 = .ok (.getfield 92, 3) := by decide +kernel
theorem dX9_worst_26 : decode cX9_worst 26 = .ok (.invokevirtual 147, 3) := by decide +kernel
theorem dX9_worst_29 : decode cX9_worst 29 = .ok (.ifCond .ne 6, 3) := by decide +kernel
theorem dX9_worst_32 : decode cX9_worst 32 = .ok (.bipush (-6), 2) := by decide +kernel
theorem dX9_worst_34 : decode cX9_worst 34 = .ok (.ireturn, 1) := by decide +kernel
theorem dX9_worst_35 : decode cX9_worst 35 = .ok (.aload_n 0, 1) := by decide +kernel
theorem dX9_worst_36 : decode cX9_worst 36 = .ok (.getfield 12, 3) := by decide +kernel
theorem dX9_worst_39 : decode cX9_worst 39 = .ok (.getfield 92, 3) := by decide +kernel
theorem dX9_worst_42 : decode cX9_worst 42 = .ok (.iload_n 1, 1) := by decide +kernel
theorem dX9_worst_43 : decode cX9_worst 43 = .ok (.invokevirtual 96, 3) := by decide +kernel
theorem dX9_worst_46 : decode cX9_worst 46 = .ok (.astore_n 3, 1) := by decide +kernel
theorem dX9_worst_47 : decode cX9_worst 47 = .ok (.aload_n 3, 1) := by decide +kernel
theorem dX9_worst_48 : decode cX9_worst 48 = .ok (.invokevirtual 196, 3) := by decide +kernel
theorem dX9_worst_51 : decode cX9_worst 51 = .ok (.istore 4, 2) := by decide +kernel
theorem dX9_worst_53 : decode cX9_worst 53 = .ok (.iload_n 2, 1) := by decide +kernel
theorem dX9_worst_54 : decode cX9_worst 54 = .ok (.ifCond .ne 8, 3) := by decide +kernel
theorem dX9_worst_57 : decode cX9_worst 57 = .ok (.iload 4, 2) := by decide +kernel
theorem dX9_worst_59 : decode cX9_worst 59 = .ok (.goto 9, 3) := by decide +kernel
theorem dX9_worst_62 : decode cX9_worst 62 = .ok (.aload_n 3, 1) := by decide +kernel
theorem dX9_worst_63 : decode cX9_worst 63 = .ok (.iload 4, 2) := by decide +kernel
theorem dX9_worst_65 : decode cX9_worst 65 = .ok (.invokevirtual 199, 3) := by decide +kernel
theorem dX9_worst_68 : decode cX9_worst 68 = .ok (.ireturn, 1) := by decide +kernel
theorem dX9_undo_0 : decode cX9_undo 0 = .ok (.aload_n 0, 1) := by decide +kernel
theorem dX9_undo_1 : decode cX9_undo 1 = .ok (.getfield 23, 3) := by decide +kernel
theorem dX9_undo_4 : decode cX9_undo 4 = .ok (.getfield 144, 3) := by decide +kernel
theorem dX9_undo_7 : decode cX9_undo 7 = .ok (.ifCond .ne 6, 3) := by decide +kernel
theorem dX9_undo_10 : decode cX9_undo 10 = .ok (.bipush (-5), 2) := by decide +kernel
theorem dX9_undo_12 : decode cX9_undo 12 = .ok (.ireturn, 1) := by decide +kernel
theorem dX9_undo_13 : decode cX9_undo 13 = .ok (.aload_n 0, 1) := by decide +kernel
theorem dX9_undo_14 : decode cX9_undo 14 = .ok (.getfield 23, 3) := by decide +kernel
theorem dX9_undo_17 : decode cX9_undo 17 = .ok (.aload_n 0, 1) := by decide +kernel
theorem dX9_undo_18 : decode cX9_undo 18 = .ok (.getfield 12, 3) := by decide +kernel
theorem dX9_undo_21 : decode cX9_undo 21 = .ok (.invokevirtual 245, 3) := by decide +kernel
theorem dX9_undo_24 : decode cX9_undo 24 = .ok (.aload_n 0, 1) := by decide +kernel
theorem dX9_undo_25 : decode cX9_undo 25 = .ok (.getfield 23, 3) := by decide +kernel
theorem dX9_undo_28 : decode cX9_undo 28 = .ok (.getfield 144, 3) := by decide +kernel
theorem dX9_undo_31 : decode cX9_undo 31 = .ok (.ireturn, 1) := by decide +kernel
theorem dX9_recorded_0 : decode cX9_recorded 0 = .ok (.iload_n 1, 1) := by decide +kernel
theorem dX9_recorded_1 : decode cX9_recorded 1 = .ok (.ifCond .lt 10, 3) := by decide +kernel
theorem dX9_recorded_4 : decode cX9_recorded 4 = .ok (.aload_n 0, 1) := by decide +kernel
theorem dX9_recorded_5 : decode cX9_recorded 5 = .ok (.getfield 23, 3) := by decide +kernel
theorem dX9_recorded_8 : decode cX9_recorded 8 = .ok (.invokevirtual 251, 3) := by decide +kernel
theorem dX9_recorded_11 : decode cX9_recorded 11 = .ok (.iload_n 1, 1) := by decide +kernel
theorem dX9_recorded_12 : decode cX9_recorded 12 = .ok (.ireturn, 1) := by decide +kernel
theorem dX9_isBetween_0 : decode cX9_isBetween 0 = .ok (.iload_n 1, 1) := by decide +kernel
theorem dX9_isBetween_1 : decode cX9_isBetween 1 = .ok (.iload_n 0, 1) := by decide +kernel
theorem dX9_isBetween_2 : decode cX9_isBetween 2 = .ok (.if_icmp .gt 12, 3) := by decide +kernel
theorem dX9_isBetween_5 : decode cX9_isBetween 5 = .ok (.iload_n 0, 1) := by decide +kernel
theorem dX9_isBetween_6 : decode cX9_isBetween 6 = .ok (.iload_n 2, 1) := by decide +kernel
theorem dX9_isBetween_7 : decode cX9_isBetween 7 = .ok (.if_icmp .gt 7, 3) := by decide +kernel
theorem dX9_isBetween_10 : decode cX9_isBetween 10 = .ok (.iconst 1, 1) := by decide +kernel
theorem dX9_isBetween_11 : decode cX9_isBetween 11 = .ok (.goto 4, 3) := by decide +kernel
theorem dX9_isBetween_14 : decode cX9_isBetween 14 = .ok (.iconst 0, 1) := by decide +kernel
theorem dX9_isBetween_15 : decode cX9_isBetween 15 = .ok (.ireturn, 1) := by decide +kernel
theorem dX9_isColumn_0 : decode cX9_isColumn 0 = .ok (.iload_n 0, 1) := by decide +kernel
theorem dX9_isColumn_1 : decode cX9_isColumn 1 = .ok (.ifCond .eq 8, 3) := by decide +kernel
theorem dX9_isColumn_4 : decode cX9_isColumn 4 = .ok (.iload_n 0, 1) := by decide +kernel
theorem dX9_isColumn_5 : decode cX9_isColumn 5 = .ok (.iconst 1, 1) := by decide +kernel
theorem dX9_isColumn_6 : decode cX9_isColumn 6 = .ok (.if_icmp .ne 7, 3) := by decide +kernel
theorem dX9_isColumn_9 : decode cX9_isColumn 9 = .ok (.iconst 1, 1) := by decide +kernel
theorem dX9_isColumn_10 : decode cX9_isColumn 10 = .ok (.goto 4, 3) := by decide +kernel
theorem dX9_isColumn_13 : decode cX9_isColumn 13 = .ok (.iconst 0, 1) := by decide +kernel
theorem dX9_isColumn_14 : decode cX9_isColumn 14 = .ok (.ireturn, 1) := by decide +kernel
theorem dX9_isValue_0 : decode cX9_isValue 0 = .ok (.iload_n 0, 1) := by decide +kernel
theorem dX9_isValue_1 : decode cX9_isValue 1 = .ok (.iconst 0, 1) := by decide +kernel
theorem dX9_isValue_2 : decode cX9_isValue 2 = .ok (.bipush 99, 2) := by decide +kernel
theorem dX9_isValue_4 : decode cX9_isValue 4 = .ok (.invokestatic 88, 3) := by decide +kernel
theorem dX9_isValue_7 : decode cX9_isValue 7 = .ok (.ireturn, 1) := by decide +kernel
theorem dX9_areBounds_0 : decode cX9_areBounds 0 = .ok (.iload_n 0, 1) := by decide +kernel
theorem dX9_areBounds_1 : decode cX9_areBounds 1 = .ok (.invokestatic 254, 3) := by decide +kernel
theorem dX9_areBounds_4 : decode cX9_areBounds 4 = .ok (.ifCond .eq 19, 3) := by decide +kernel
theorem dX9_areBounds_7 : decode cX9_areBounds 7 = .ok (.iload_n 1, 1) := by decide +kernel
theorem dX9_areBounds_8 : decode cX9_areBounds 8 = .ok (.invokestatic 254, 3) := by decide +kernel
theorem dX9_areBounds_11 : decode cX9_areBounds 11 = .ok (.ifCond .eq 12, 3) := by decide +kernel
theorem dX9_areBounds_14 : decode cX9_areBounds 14 = .ok (.iload_n 0, 1) := by decide +kernel
theorem dX9_areBounds_15 : decode cX9_areBounds 15 = .ok (.iload_n 1, 1) := by decide +kernel
theorem dX9_areBounds_16 : decode cX9_areBounds 16 = .ok (.if_icmp .gt 7, 3) := by decide +kernel
theorem dX9_areBounds_19 : decode cX9_areBounds 19 = .ok (.iconst 1, 1) := by decide +kernel
theorem dX9_areBounds_20 : decode cX9_areBounds 20 = .ok (.goto 4, 3) := by decide +kernel
theorem dX9_areBounds_23 : decode cX9_areBounds 23 = .ok (.iconst 0, 1) := by decide +kernel
theorem dX9_areBounds_24 : decode cX9_areBounds 24 = .ok (.ireturn, 1) := by decide +kernel
theorem dX9_copyNumbers_0 : decode cX9_copyNumbers 0 = .ok (.iconst 0, 1) := by decide +kernel
theorem dX9_copyNumbers_1 : decode cX9_copyNumbers 1 = .ok (.istore_n 2, 1) := by decide +kernel
theorem dX9_copyNumbers_2 : decode cX9_copyNumbers 2 = .ok (.iload_n 2, 1) := by decide +kernel
theorem dX9_copyNumbers_3 : decode cX9_copyNumbers 3 = .ok (.aload_n 0, 1) := by decide +kernel
theorem dX9_copyNumbers_4 : decode cX9_copyNumbers 4 = .ok (.arraylength, 1) := by decide +kernel
theorem dX9_copyNumbers_5 : decode cX9_copyNumbers 5 = .ok (.if_icmp .ge 21, 3) := by decide +kernel
theorem dX9_copyNumbers_8 : decode cX9_copyNumbers 8 = .ok (.iload_n 2, 1) := by decide +kernel
theorem dX9_copyNumbers_9 : decode cX9_copyNumbers 9 = .ok (.aload_n 1, 1) := by decide +kernel
theorem dX9_copyNumbers_10 : decode cX9_copyNumbers 10 = .ok (.arraylength, 1) := by decide +kernel
theorem dX9_copyNumbers_11 : decode cX9_copyNumbers 11 = .ok (.if_icmp .ge 15, 3) := by decide +kernel
theorem dX9_copyNumbers_14 : decode cX9_copyNumbers 14 = .ok (.aload_n 1, 1) := by decide +kernel
theorem dX9_copyNumbers_15 : decode cX9_copyNumbers 15 = .ok (.iload_n 2, 1) := by decide +kernel
theorem dX9_copyNumbers_16 : decode cX9_copyNumbers 16 = .ok (.aload_n 0, 1) := by decide +kernel
theorem dX9_copyNumbers_17 : decode cX9_copyNumbers 17 = .ok (.iload_n 2, 1) := by decide +kernel
theorem dX9_copyNumbers_18 : decode cX9_copyNumbers 18 = .ok (.iaload, 1) := by decide +kernel
theorem dX9_copyNumbers_19 : decode cX9_copyNumbers 19 = .ok (.iastore, 1) := by decide +kernel
theorem dX9_copyNumbers_20 : decode cX9_copyNumbers 20 = .ok (.iinc 2 1, 3) := by decide +kernel
theorem dX9_copyNumbers_23 : decode cX9_copyNumbers 23 = .ok (.goto (-21), 3) := by decide +kernel
theorem dX9_copyNumbers_26 : decode cX9_copyNumbers 26 = .ok (.return_, 1) := by decide +kernel
theorem dJ9_abs_0f7a4_0 : decode cJ9_abs_0f7a4 0 = .ok (.iload_n 0, 1) := by decide +kernel
theorem dJ9_abs_0f7a4_1 : decode cJ9_abs_0f7a4 1 = .ok (.ifCond .ge 8, 3) := by decide +kernel
theorem dJ9_abs_0f7a4_4 : decode cJ9_abs_0f7a4 4 = .ok (.iload_n 0, 1) := by decide +kernel
theorem dJ9_abs_0f7a4_5 : decode cJ9_abs_0f7a4 5 = .ok (.ineg, 1) := by decide +kernel
theorem dJ9_abs_0f7a4_6 : decode cJ9_abs_0f7a4 6 = .ok (.goto 4, 3) := by decide +kernel
theorem dJ9_abs_0f7a4_9 : decode cJ9_abs_0f7a4 9 = .ok (.iload_n 0, 1) := by decide +kernel
theorem dJ9_abs_0f7a4_10 : decode cJ9_abs_0f7a4 10 = .ok (.ireturn, 1) := by decide +kernel
theorem dJ9_max_7cf53_0 : decode cJ9_max_7cf53 0 = .ok (.iload_n 0, 1) := by decide +kernel
theorem dJ9_max_7cf53_1 : decode cJ9_max_7cf53 1 = .ok (.iload_n 1, 1) := by decide +kernel
theorem dJ9_max_7cf53_2 : decode cJ9_max_7cf53 2 = .ok (.if_icmp .lt 7, 3) := by decide +kernel
theorem dJ9_max_7cf53_5 : decode cJ9_max_7cf53 5 = .ok (.iload_n 0, 1) := by decide +kernel
theorem dJ9_max_7cf53_6 : decode cJ9_max_7cf53 6 = .ok (.goto 4, 3) := by decide +kernel

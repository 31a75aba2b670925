theorem dX6_readRow_52 : decode cX6_readRow 52 = .ok (.iconst 0, 1) := by decide +kernel
theorem dX6_readRow_53 : decode cX6_readRow 53 = .ok (.ireturn, 1) := by decide +kernel
theorem dX6_readTimes_0 : decode cX6_readTimes 0 = .ok (.aload_n 0, 1) := by decide +kernel
theorem dX6_readTimes_1 : decode cX6_readTimes 1 = .ok (.iconst 1, 1) := by decide +kernel
theorem dX6_readTimes_2 : decode cX6_readTimes 2 = .ok (.putfield 59, 3) := by decide +kernel
theorem dX6_readTimes_5 : decode cX6_readTimes 5 = .ok (.aload_n 0, 1) := by decide +kernel
theorem dX6_readTimes_6 : decode cX6_readTimes 6 = .ok (.bipush 42, 2) := by decide +kernel
theorem dX6_readTimes_8 : decode cX6_readTimes 8 = .ok (.invokevirtual 31, 3) := by decide +kernel
theorem dX6_readTimes_11 : decode cX6_readTimes 11 = .ok (.ifCond .ne 5, 3) := by decide +kernel
theorem dX6_readTimes_14 : decode cX6_readTimes 14 = .ok (.iconst 1, 1) := by decide +kernel
theorem dX6_readTimes_15 : decode cX6_readTimes 15 = .ok (.ireturn, 1) := by decide +kernel
theorem dX6_readTimes_16 : decode cX6_readTimes 16 = .ok (.aload_n 0, 1) := by decide +kernel
theorem dX6_readTimes_17 : decode cX6_readTimes 17 = .ok (.getfield 9, 3) := by decide +kernel
theorem dX6_readTimes_20 : decode cX6_readTimes 20 = .ok (.aload_n 0, 1) := by decide +kernel
theorem dX6_readTimes_21 : decode cX6_readTimes 21 = .ok (.getfield 15, 3) := by decide +kernel
theorem dX6_readTimes_24 : decode cX6_readTimes 24 = .ok (.invokevirtual 35, 3) := by decide +kernel
theorem dX6_readTimes_27 : decode cX6_readTimes 27 = .ok (.bipush 48, 2) := by decide +kernel
theorem dX6_readTimes_29 : decode cX6_readTimes 29 = .ok (.if_icmp .ne 5, 3) := by decide +kernel
theorem dX6_readTimes_32 : decode cX6_readTimes 32 = .ok (.iconst 0, 1) := by decide +kernel
theorem dX6_readTimes_33 : decode cX6_readTimes 33 = .ok (.ireturn, 1) := by decide +kernel
theorem dX6_readTimes_34 : decode cX6_readTimes 34 = .ok (.aload_n 0, 1) := by decide +kernel
theorem dX6_readTimes_35 : decode cX6_readTimes 35 = .ok (.aload_n 0, 1) := by decide +kernel
theorem dX6_readTimes_36 : decode cX6_readTimes 36 = .ok (.invokevirtual 62, 3) := by decide +kernel
theorem dX6_readTimes_39 : decode cX6_readTimes 39 = .ok (.putfield 59, 3) := by decide +kernel
theorem dX6_readTimes_42 : decode cX6_readTimes 42 = .ok (.aload_n 0, 1) := by decide +kernel
theorem dX6_readTimes_43 : decode cX6_readTimes 43 = .ok (.getfield 59, 3) := by decide +kernel
theorem dX6_readTimes_46 : decode cX6_readTimes 46 = .ok (.ifCond .le 7, 3) := by decide +kernel
theorem dX6_readTimes_49 : decode cX6_readTimes 49 = .ok (.iconst 1, 1) := by decide +kernel
theorem dX6_readTimes_50 : decode cX6_readTimes 50 = .ok (.goto 4, 3) := by decide +kernel
theorem dX6_readTimes_53 : decode cX6_readTimes 53 = .ok (.iconst 0, 1) := by decide +kernel
theorem dX6_readTimes_54 : decode cX6_readTimes 54 = .ok (.ireturn, 1) := by decide +kernel
theorem dX6_readNumber_0 : decode cX6_readNumber 0 = .ok (.aload_n 0, 1) := by decide +kernel
theorem dX6_readNumber_1 : decode cX6_readNumber 1 = .ok (.invokevirtual 62, 3) := by decide +kernel
theorem dX6_readNumber_4 : decode cX6_readNumber 4 = .ok (.istore_n 1, 1) := by decide +kernel
theorem dX6_readNumber_5 : decode cX6_readNumber 5 = .ok (.iload_n 1, 1) := by decide +kernel
theorem dX6_readNumber_6 : decode cX6_readNumber 6 = .ok (.ifCond .gt 5, 3) := by decide +kernel
theorem dX6_readNumber_9 : decode cX6_readNumber 9 = .ok (.iload_n 1, 1) := by decide +kernel
theorem dX6_readNumber_10 : decode cX6_readNumber 10 = .ok (.ireturn, 1) := by decide +kernel
theorem dX6_readNumber_11 : decode cX6_readNumber 11 = .ok (.aload_n 0, 1) := by decide +kernel
theorem dX6_readNumber_12 : decode cX6_readNumber 12 = .ok (.invokevirtual 62, 3) := by decide +kernel
theorem dX6_readNumber_15 : decode cX6_readNumber 15 = .ok (.istore_n 2, 1) := by decide +kernel
theorem dX6_readNumber_16 : decode cX6_readNumber 16 = .ok (.iload_n 2, 1) := by decide +kernel
theorem dX6_readNumber_17 : decode cX6_readNumber 17 = .ok (.ifCond .ge 7, 3) := by decide +kernel
theorem dX6_readNumber_20 : decode cX6_readNumber 20 = .ok (.iload_n 1, 1) := by decide +kernel
theorem dX6_readNumber_21 : decode cX6_readNumber 21 = .ok (.goto 9, 3) := by decide +kernel
theorem dX6_readNumber_24 : decode cX6_readNumber 24 = .ok (.iload_n 1, 1) := by decide +kernel
theorem dX6_readNumber_25 : decode cX6_readNumber 25 = .ok (.bipush 10, 2) := by decide +kernel
theorem dX6_readNumber_27 : decode cX6_readNumber 27 = .ok (.imul, 1) := by decide +kernel
theorem dX6_readNumber_28 : decode cX6_readNumber 28 = .ok (.iload_n 2, 1) := by decide +kernel
theorem dX6_readNumber_29 : decode cX6_readNumber 29 = .ok (.iadd, 1) := by decide +kernel
theorem dX6_readNumber_30 : decode cX6_readNumber 30 = .ok (.ireturn, 1) := by decide +kernel
theorem dX6_readDigit_0 : decode cX6_readDigit 0 = .ok (.aload_n 0, 1) := by decide +kernel
theorem dX6_readDigit_1 : decode cX6_readDigit 1 = .ok (.getfield 9, 3) := by decide +kernel
theorem dX6_readDigit_4 : decode cX6_readDigit 4 = .ok (.aload_n 0, 1) := by decide +kernel
theorem dX6_readDigit_5 : decode cX6_readDigit 5 = .ok (.getfield 15, 3) := by decide +kernel
theorem dX6_readDigit_8 : decode cX6_readDigit 8 = .ok (.invokevirtual 35, 3) := by decide +kernel
theorem dX6_readDigit_11 : decode cX6_readDigit 11 = .ok (.bipush 48, 2) := by decide +kernel
theorem dX6_readDigit_13 : decode cX6_readDigit 13 = .ok (.isub, 1) := by decide +kernel
theorem dX6_readDigit_14 : decode cX6_readDigit 14 = .ok (.istore_n 1, 1) := by decide +kernel
theorem dX6_readDigit_15 : decode cX6_readDigit 15 = .ok (.iload_n 1, 1) := by decide +kernel
theorem dX6_readDigit_16 : decode cX6_readDigit 16 = .ok (.ifCond .lt 9, 3) := by decide +kernel
theorem dX6_readDigit_19 : decode cX6_readDigit 19 = .ok (.iload_n 1, 1) := by decide +kernel
theorem dX6_readDigit_20 : decode cX6_readDigit 20 = .ok (.bipush 9, 2) := by decide +kernel
theorem dX6_readDigit_22 : decode cX6_readDigit 22 = .ok (.if_icmp .le 5, 3) := by decide +kernel
theorem dX6_readDigit_25 : decode cX6_readDigit 25 = .ok (.iconst (-1), 1) := by decide +kernel
theorem dX6_readDigit_26 : decode cX6_readDigit 26 = .ok (.ireturn, 1) := by decide +kernel
theorem dX6_readDigit_27 : decode cX6_readDigit 27 = .ok (.aload_n 0, 1) := by decide +kernel
theorem dX6_readDigit_28 : decode cX6_readDigit 28 = .ok (.dup, 1) := by decide +kernel
theorem dX6_readDigit_29 : decode cX6_readDigit 29 = .ok (.getfield 15, 3) := by decide +kernel
theorem dX6_readDigit_32 : decode cX6_readDigit 32 = .ok (.iconst 1, 1) := by decide +kernel
theorem dX6_readDigit_33 : decode cX6_readDigit 33 = .ok (.iadd, 1) := by decide +kernel
theorem dX6_readDigit_34 : decode cX6_readDigit 34 = .ok (.putfield 15, 3) := by decide +kernel
theorem dX6_readDigit_37 : decode cX6_readDigit 37 = .ok (.iload_n 1, 1) := by decide +kernel
theorem dX6_readDigit_38 : decode cX6_readDigit 38 = .ok (.ireturn, 1) := by decide +kernel
theorem dX6_passSign_0 : decode cX6_passSign 0 = .ok (.aload_n 0, 1) := by decide +kernel
theorem dX6_passSign_1 : decode cX6_passSign 1 = .ok (.getfield 9, 3) := by decide +kernel
theorem dX6_passSign_4 : decode cX6_passSign 4 = .ok (.aload_n 0, 1) := by decide +kernel
theorem dX6_passSign_5 : decode cX6_passSign 5 = .ok (.getfield 15, 3) := by decide +kernel
theorem dX6_passSign_8 : decode cX6_passSign 8 = .ok (.invokevirtual 35, 3) := by decide +kernel
theorem dX6_passSign_11 : decode cX6_passSign 11 = .ok (.iload_n 1, 1) := by decide +kernel
theorem dX6_passSign_12 : decode cX6_passSign 12 = .ok (.if_icmp .eq 5, 3) := by decide +kernel
theorem dX6_passSign_15 : decode cX6_passSign 15 = .ok (.iconst 0, 1) := by decide +kernel
theorem dX6_passSign_16 : decode cX6_passSign 16 = .ok (.ireturn, 1) := by decide +kernel
theorem dX6_passSign_17 : decode cX6_passSign 17 = .ok (.aload_n 0, 1) := by decide +kernel
theorem dX6_passSign_18 : decode cX6_passSign 18 = .ok (.dup, 1) := by decide +kernel
theorem dX6_passSign_19 : decode cX6_passSign 19 = .ok (.getfield 15, 3) := by decide +kernel
theorem dX6_passSign_22 : decode cX6_passSign 22 = .ok (.iconst 1, 1) := by decide +kernel
theorem dX6_passSign_23 : decode cX6_passSign 23 = .ok (.iadd, 1) := by decide +kernel
theorem dX6_passSign_24 : decode cX6_passSign 24 = .ok (.putfield 15, 3) := by decide +kernel
theorem dX6_passSign_27 : decode cX6_passSign 27 = .ok (.iconst 1, 1) := by decide +kernel
theorem dX6_passSign_28 : decode cX6_passSign 28 = .ok (.ireturn, 1) := by decide +kernel
theorem dX7_init_0 : decode cX7_init 0 = .ok (.aload_n 0, 1) := by decide +kernel
theorem dX7_init_1 : decode cX7_init 1 = .ok (.invokespecial 3, 3) := by decide +kernel
theorem dX7_init_4 : decode cX7_init 4 = .ok (.aload_n 0, 1) := by decide +kernel
theorem dX7_init_5 : decode cX7_init 5 = .ok (.iconst 4, 1) := by decide +kernel
theorem dX7_init_6 : decode cX7_init 6 = .ok (.newarray .int, 2) := by decide +kernel
theorem dX7_init_8 : decode cX7_init 8 = .ok (.dup, 1) := by decide +kernel
theorem dX7_init_9 : decode cX7_init 9 = .ok (.iconst 0, 1) := by decide +kernel
theorem dX7_init_10 : decode cX7_init 10 = .ok (.iconst 4, 1) := by decide +kernel
theorem dX7_init_11 : decode cX7_init 11 = .ok (.iastore, 1) := by decide +kernel
theorem dX7_init_12 : decode cX7_init 12 = .ok (.dup, 1) := by decide +kernel
theorem dX7_init_13 : decode cX7_init 13 = .ok (.iconst 1, 1) := by decide +kernel
theorem dX7_init_14 : decode cX7_init 14 = .ok (.iconst 2, 1) := by decide +kernel
theorem dX7_init_15 : decode cX7_init 15 = .ok (.iastore, 1) := by decide +kernel
theorem dX7_init_16 : decode cX7_init 16 = .ok (.dup, 1) := by decide +kernel
theorem dX7_init_17 : decode cX7_init 17 = .ok (.iconst 2, 1) := by decide +kernel
theorem dX7_init_18 : decode cX7_init 18 = .ok (.iconst 2, 1) := by decide +kernel
theorem dX7_init_19 : decode cX7_init 19 = .ok (.iastore, 1) := by decide +kernel
theorem dX7_init_20 : decode cX7_init 20 = .ok (.dup, 1) := by decide +kernel
theorem dX7_init_21 : decode cX7_init 21 = .ok (.iconst 3, 1) := by decide +kernel
theorem dX7_init_22 : decode cX7_init 22 = .ok (.bipush 20, 2) := by decide +kernel
theorem dX7_init_24 : decode cX7_init 24 = .ok (.iastore, 1) := by decide +kernel
theorem dX7_init_25 : decode cX7_init 25 = .ok (.putfield 9, 3) := by decide +kernel
theorem dX7_init_28 : decode cX7_init 28 = .ok (.aload_n 0, 1) := by decide +kernel
theorem dX7_init_29 : decode cX7_init 29 = .ok (.new 15, 3) := by decide +kernel
theorem dX7_init_32 : decode cX7_init 32 = .ok (.dup, 1) := by decide +kernel
theorem dX7_init_33 : decode cX7_init 33 = .ok (.invokespecial 17, 3) := by decide +kernel
theorem dX7_init_36 : decode cX7_init 36 = .ok (.putfield 18, 3) := by decide +kernel
theorem dX7_init_39 : decode cX7_init 39 = .ok (.aload_n 0, 1) := by decide +kernel
theorem dX7_init_40 : decode cX7_init 40 = .ok (.new 22, 3) := by decide +kernel
theorem dX7_init_43 : decode cX7_init 43 = .ok (.dup, 1) := by decide +kernel
theorem dX7_init_44 : decode cX7_init 44 = .ok (.invokespecial 24, 3) := by decide +kernel
theorem dX7_init_47 : decode cX7_init 47 = .ok (.putfield 25, 3) := by decide +kernel
theorem dX7_init_50 : decode cX7_init 50 = .ok (.return_, 1) := by decide +kernel
theorem dX7_setting_0 : decode cX7_setting 0 = .ok (.iload_n 1, 1) := by decide +kernel
theorem dX7_setting_1 : decode cX7_setting 1 = .ok (.iconst 0, 1) := by decide +kernel
theorem dX7_setting_2 : decode cX7_setting 2 = .ok (.iconst 3, 1) := by decide +kernel
theorem dX7_setting_3 : decode cX7_setting 3 = .ok (.invokestatic 29, 3) := by decide +kernel
theorem dX7_setting_6 : decode cX7_setting 6 = .ok (.ifCond .eq 12, 3) := by decide +kernel
theorem dX7_setting_9 : decode cX7_setting 9 = .ok (.aload_n 0, 1) := by decide +kernel
theorem dX7_setting_10 : decode cX7_setting 10 = .ok (.getfield 9, 3) := by decide +kernel
theorem dX7_setting_13 : decode cX7_setting 13 = .ok (.iload_n 1, 1) := by decide +kernel
theorem dX7_setting_14 : decode cX7_setting 14 = .ok (.iaload, 1) := by decide +kernel
theorem dX7_setting_15 : decode cX7_setting 15 = .ok (.goto 4, 3) := by decide +kernel
theorem dX7_setting_18 : decode cX7_setting 18 = .ok (.iconst 0, 1) := by decide +kernel
theorem dX7_setting_19 : decode cX7_setting 19 = .ok (.ireturn, 1) := by decide +kernel
theorem dX7_change_0 : decode cX7_change 0 = .ok (.iload_n 1, 1) := by decide +kernel
theorem dX7_change_1 : decode cX7_change 1 = .ok (.iconst 0, 1) := by decide +kernel
theorem dX7_change_2 : decode cX7_change 2 = .ok (.iconst 3, 1) := by decide +kernel
theorem dX7_change_3 : decode cX7_change 3 = .ok (.invokestatic 29, 3) := by decide +kernel
theorem dX7_change_6 : decode cX7_change 6 = .ok (.ifCond .eq 11, 3) := by decide +kernel
theorem dX7_change_9 : decode cX7_change 9 = .ok (.iload_n 1, 1) := by decide +kernel
theorem dX7_change_10 : decode cX7_change 10 = .ok (.iload_n 2, 1) := by decide +kernel
theorem dX7_change_11 : decode cX7_change 11 = .ok (.invokestatic 33, 3) := by decide +kernel
theorem dX7_change_14 : decode cX7_change 14 = .ok (.ifCond .ne 6, 3) := by decide +kernel
theorem dX7_change_17 : decode cX7_change 17 = .ok (.bipush (-2), 2) := by decide +kernel
theorem dX7_change_19 : decode cX7_change 19 = .ok (.ireturn, 1) := by decide +kernel
theorem dX7_change_20 : decode cX7_change 20 = .ok (.aload_n 0, 1) := by decide +kernel
theorem dX7_change_21 : decode cX7_change 21 = .ok (.getfield 9, 3) := by decide +kernel
theorem dX7_change_24 : decode cX7_change 24 = .ok (.iload_n 1, 1) := by decide +kernel
theorem dX7_change_25 : decode cX7_change 25 = .ok (.iaload, 1) := by decide +kernel
theorem dX7_change_26 : decode cX7_change 26 = .ok (.istore_n 3, 1) := by decide +kernel
theorem dX7_change_27 : decode cX7_change 27 = .ok (.aload_n 0, 1) := by decide +kernel
theorem dX7_change_28 : decode cX7_change 28 = .ok (.getfield 9, 3) := by decide +kernel
theorem dX7_change_31 : decode cX7_change 31 = .ok (.iload_n 1, 1) := by decide +kernel
theorem dX7_change_32 : decode cX7_change 32 = .ok (.iload_n 2, 1) := by decide +kernel
theorem dX7_change_33 : decode cX7_change 33 = .ok (.iastore, 1) := by decide +kernel
theorem dX7_change_34 : decode cX7_change 34 = .ok (.iload_n 3, 1) := by decide +kernel
theorem dX7_change_35 : decode cX7_change 35 = .ok (.ireturn, 1) := by decide +kernel
theorem dX7_isInRange_0 : decode cX7_isInRange 0 = .ok (.iload_n 0, 1) := by decide +kernel
theorem dX7_isInRange_1 : decode cX7_isInRange 1 = .ok (.tableswitch 63 0 3 #[31, 39, 47, 55], 31) := by decide +kernel
theorem dX7_isInRange_32 : decode cX7_isInRange 32 = .ok (.iload_n 1, 1) := by decide +kernel
theorem dX7_isInRange_33 : decode cX7_isInRange 33 = .ok (.iconst 1, 1) := by decide +kernel
theorem dX7_isInRange_34 : decode cX7_isInRange 34 = .ok (.bipush 10, 2) := by decide +kernel
theorem dX7_isInRange_36 : decode cX7_isInRange 36 = .ok (.invokestatic 29, 3) := by decide +kernel
theorem dX7_isInRange_39 : decode cX7_isInRange 39 = .ok (.ireturn, 1) := by decide +kernel
theorem dX7_isInRange_40 : decode cX7_isInRange 40 = .ok (.iload_n 1, 1) := by decide +kernel
theorem dX7_isInRange_41 : decode cX7_isInRange 41 = .ok (.iconst 0, 1) := by decide +kernel
theorem dX7_isInRange_42 : decode cX7_isInRange 42 = .ok (.bipush 6, 2) := by decide +kernel
theorem dX7_isInRange_44 : decode cX7_isInRange 44 = .ok (.invokestatic 29, 3) := by decide +kernel
theorem dX7_isInRange_47 : decode cX7_isInRange 47 = .ok (.ireturn, 1) := by decide +kernel
theorem dX7_isInRange_48 : decode cX7_isInRange 48 = .ok (.iload_n 1, 1) := by decide +kernel
theorem dX7_isInRange_49 : decode cX7_isInRange 49 = .ok (.iconst 0, 1) := by decide +kernel
theorem dX7_isInRange_50 : decode cX7_isInRange 50 = .ok (.bipush 6, 2) := by decide +kernel
theorem dX7_isInRange_52 : decode cX7_isInRange 52 = .ok (.invokestatic 29, 3) := by decide +kernel
theorem dX7_isInRange_55 : decode cX7_isInRange 55 = .ok (.ireturn, 1) := by decide +kernel
theorem dX7_isInRange_56 : decode cX7_isInRange 56 = .ok (.iload_n 1, 1) := by decide +kernel
theorem dX7_isInRange_57 : decode cX7_isInRange 57 = .ok (.iconst 0, 1) := by decide +kernel
theorem dX7_isInRange_58 : decode cX7_isInRange 58 = .ok (.bipush 100, 2) := by decide +kernel
theorem dX7_isInRange_60 : decode cX7_isInRange 60 = .ok (.invokestatic 29, 3) := by decide +kernel
theorem dX7_isInRange_63 : decode cX7_isInRange 63 = .ok (.ireturn, 1) := by decide +kernel
theorem dX7_isInRange_64 : decode cX7_isInRange 64 = .ok (.iconst 0, 1) := by decide +kernel
theorem dX7_isInRange_65 : decode cX7_isInRange 65 = .ok (.ireturn, 1) := by decide +kernel
theorem dX7_addRow_0 : decode cX7_addRow 0 = .ok (.iload_n 1, 1) := by decide +kernel
theorem dX7_addRow_1 : decode cX7_addRow 1 = .ok (.invokestatic 37, 3) := by decide +kernel
theorem dX7_addRow_4 : decode cX7_addRow 4 = .ok (.ifCond .eq 10, 3) := by decide +kernel
theorem dX7_addRow_7 : decode cX7_addRow 7 = .ok (.iload_n 2, 1) := by decide +kernel
theorem dX7_addRow_8 : decode cX7_addRow 8 = .ok (.invokestatic 37, 3) := by decide +kernel
theorem dX7_addRow_11 : decode cX7_addRow 11 = .ok (.ifCond .ne 6, 3) := by decide +kernel
theorem dX7_addRow_14 : decode cX7_addRow 14 = .ok (.bipush (-2), 2) := by decide +kernel
theorem dX7_addRow_16 : decode cX7_addRow 16 = .ok (.ireturn, 1) := by decide +kernel
theorem dX7_addRow_17 : decode cX7_addRow 17 = .ok (.aload_n 0, 1) := by decide +kernel
theorem dX7_addRow_18 : decode cX7_addRow 18 = .ok (.getfield 18, 3) := by decide +kernel
theorem dX7_addRow_21 : decode cX7_addRow 21 = .ok (.invokevirtual 41, 3) := by decide +kernel
theorem dX7_addRow_24 : decode cX7_addRow 24 = .ok (.ifCond .eq 6, 3) := by decide +kernel
theorem dX7_addRow_27 : decode cX7_addRow 27 = .ok (.bipush (-4), 2) := by decide +kernel
theorem dX7_addRow_29 : decode cX7_addRow 29 = .ok (.ireturn, 1) := by decide +kernel
theorem dX7_addRow_30 : decode cX7_addRow 30 = .ok (.aload_n 0, 1) := by decide +kernel
theorem dX7_addRow_31 : decode cX7_addRow 31 = .ok (.getfield 18, 3) := by decide +kernel
theorem dX7_addRow_34 : decode cX7_addRow 34 = .ok (.iload_n 1, 1) := by decide +kernel
theorem dX7_addRow_35 : decode cX7_addRow 35 = .ok (.iload_n 2, 1) := by decide +kernel
theorem dX7_addRow_36 : decode cX7_addRow 36 = .ok (.invokevirtual 45, 3) := by decide +kernel
theorem dX7_addRow_39 : decode cX7_addRow 39 = .ok (.aload_n 0, 1) := by decide +kernel
theorem dX7_addRow_40 : decode cX7_addRow 40 = .ok (.getfield 25, 3) := by decide +kernel
theorem dX7_addRow_43 : decode cX7_addRow 43 = .ok (.invokevirtual 49, 3) := by decide +kernel
theorem dX7_addRow_46 : decode cX7_addRow 46 = .ok (.aload_n 0, 1) := by decide +kernel
theorem dX7_addRow_47 : decode cX7_addRow 47 = .ok (.getfield 18, 3) := by decide +kernel
theorem dX7_addRow_50 : decode cX7_addRow 50 = .ok (.getfield 52, 3) := by decide +kernel
theorem dX7_addRow_53 : decode cX7_addRow 53 = .ok (.iconst 1, 1) := by decide +kernel
theorem dX7_addRow_54 : decode cX7_addRow 54 = .ok (.isub, 1) := by decide +kernel
theorem dX7_addRow_55 : decode cX7_addRow 55 = .ok (.ireturn, 1) := by decide +kernel
theorem dX7_addRows_0 : decode cX7_addRows 0 = .ok (.bipush (-2), 2) := by decide +kernel
theorem dX7_addRows_2 : decode cX7_addRows 2 = .ok (.istore 4, 2) := by decide +kernel
theorem dX7_addRows_4 : decode cX7_addRows 4 = .ok (.iconst 0, 1) := by decide +kernel
theorem dX7_addRows_5 : decode cX7_addRows 5 = .ok (.istore 5, 2) := by decide +kernel
theorem dX7_addRows_7 : decode cX7_addRows 7 = .ok (.iload 5, 2) := by decide +kernel
theorem dX7_addRows_9 : decode cX7_addRows 9 = .ok (.iload_n 3, 1) := by decide +kernel
theorem dX7_addRows_10 : decode cX7_addRows 10 = .ok (.if_icmp .ge 17, 3) := by decide +kernel
theorem dX7_addRows_13 : decode cX7_addRows 13 = .ok (.aload_n 0, 1) := by decide +kernel
theorem dX7_addRows_14 : decode cX7_addRows 14 = .ok (.iload_n 1, 1) := by decide +kernel
theorem dX7_addRows_15 : decode cX7_addRows 15 = .ok (.iload_n 2, 1) := by decide +kernel
theorem dX7_addRows_16 : decode cX7_addRows 16 = .ok (.invokevirtual 56, 3) := by decide +kernel
theorem dX7_addRows_19 : decode cX7_addRows 19 = .ok (.istore 4, 2) := by decide +kernel
theorem dX7_addRows_21 : decode cX7_addRows 21 = .ok (.iinc 5 1, 3) := by decide +kernel
theorem dX7_addRows_24 : decode cX7_addRows 24 = .ok (.goto (-17), 3) := by decide +kernel
theorem dX7_addRows_27 : decode cX7_addRows 27 = .ok (.iload 4, 2) := by decide +kernel
theorem dX7_addRows_29 : decode cX7_addRows 29 = .ok (.ireturn, 1) := by decide +kernel
theorem dX7_dropRow_0 : decode cX7_dropRow 0 = .ok (.aload_n 0, 1) := by decide +kernel
theorem dX7_dropRow_1 : decode cX7_dropRow 1 = .ok (.getfield 18, 3) := by decide +kernel
theorem dX7_dropRow_4 : decode cX7_dropRow 4 = .ok (.iload_n 1, 1) := by decide +kernel
theorem dX7_dropRow_5 : decode cX7_dropRow 5 = .ok (.invokevirtual 60, 3) := by decide +kernel
theorem dX7_dropRow_8 : decode cX7_dropRow 8 = .ok (.ifCond .ne 5, 3) := by decide +kernel
theorem dX7_dropRow_11 : decode cX7_dropRow 11 = .ok (.iconst (-1), 1) := by decide +kernel
theorem dX7_dropRow_12 : decode cX7_dropRow 12 = .ok (.ireturn, 1) := by decide +kernel
theorem dX7_dropRow_13 : decode cX7_dropRow 13 = .ok (.aload_n 0, 1) := by decide +kernel
theorem dX7_dropRow_14 : decode cX7_dropRow 14 = .ok (.getfield 18, 3) := by decide +kernel
theorem dX7_dropRow_17 : decode cX7_dropRow 17 = .ok (.iload_n 1, 1) := by decide +kernel
theorem dX7_dropRow_18 : decode cX7_dropRow 18 = .ok (.invokevirtual 63, 3) := by decide +kernel
theorem dX7_dropRow_21 : decode cX7_dropRow 21 = .ok (.aload_n 0, 1) := by decide +kernel
theorem dX7_dropRow_22 : decode cX7_dropRow 22 = .ok (.getfield 25, 3) := by decide +kernel
theorem dX7_dropRow_25 : decode cX7_dropRow 25 = .ok (.invokevirtual 49, 3) := by decide +kernel
theorem dX7_dropRow_28 : decode cX7_dropRow 28 = .ok (.aload_n 0, 1) := by decide +kernel
theorem dX7_dropRow_29 : decode cX7_dropRow 29 = .ok (.getfield 18, 3) := by decide +kernel
theorem dX7_dropRow_32 : decode cX7_dropRow 32 = .ok (.getfield 52, 3) := by decide +kernel
theorem dX7_dropRow_35 : decode cX7_dropRow 35 = .ok (.ireturn, 1) := by decide +kernel
theorem dX7_makeAnalysis_0 : decode cX7_makeAnalysis 0 = .ok (.aload_n 0, 1) := by decide +kernel
theorem dX7_makeAnalysis_1 : decode cX7_makeAnalysis 1 = .ok (.getfield 18, 3) := by decide +kernel
theorem dX7_makeAnalysis_4 : decode cX7_makeAnalysis 4 = .ok (.getfield 52, 3) := by decide +kernel
theorem dX7_makeAnalysis_7 : decode cX7_makeAnalysis 7 = .ok (.ifCond .ne 6, 3) := by decide +kernel
theorem dX7_makeAnalysis_10 : decode cX7_makeAnalysis 10 = .ok (.bipush (-5), 2) := by decide +kernel
theorem dX7_makeAnalysis_12 : decode cX7_makeAnalysis 12 = .ok (.ireturn, 1) := by decide +kernel
theorem dX7_makeAnalysis_13 : decode cX7_makeAnalysis 13 = .ok (.aload_n 0, 1) := by decide +kernel
theorem dX7_makeAnalysis_14 : decode cX7_makeAnalysis 14 = .ok (.getfield 25, 3) := by decide +kernel
theorem dX7_makeAnalysis_17 : decode cX7_makeAnalysis 17 = .ok (.aload_n 0, 1) := by decide +kernel
theorem dX7_makeAnalysis_18 : decode cX7_makeAnalysis 18 = .ok (.getfield 18, 3) := by decide +kernel
theorem dX7_makeAnalysis_21 : decode cX7_makeAnalysis 21 = .ok (.aload_n 0, 1) := by decide +kernel
theorem dX7_makeAnalysis_22 : decode cX7_makeAnalysis 22 = .ok (.iconst 0, 1) := by decide +kernel
theorem dX7_makeAnalysis_23 : decode cX7_makeAnalysis 23 = .ok (.invokevirtual 67, 3) := by decide +kernel
theorem dX7_makeAnalysis_26 : decode cX7_makeAnalysis 26 = .ok (.aload_n 0, 1) := by decide +kernel
theorem dX7_makeAnalysis_27 : decode cX7_makeAnalysis 27 = .ok (.iconst 1, 1) := by decide +kernel
theorem dX7_makeAnalysis_28 : decode cX7_makeAnalysis 28 = .ok (.invokevirtual 67, 3) := by decide +kernel
theorem dX7_makeAnalysis_31 : decode cX7_makeAnalysis 31 = .ok (.aload_n 0, 1) := by decide +kernel
theorem dX7_makeAnalysis_32 : decode cX7_makeAnalysis 32 = .ok (.iconst 2, 1) := by decide +kernel
theorem dX7_makeAnalysis_33 : decode cX7_makeAnalysis 33 = .ok (.invokevirtual 67, 3) := by decide +kernel
theorem dX7_makeAnalysis_36 : decode cX7_makeAnalysis 36 = .ok (.invokevirtual 71, 3) := by decide +kernel
theorem dX7_makeAnalysis_39 : decode cX7_makeAnalysis 39 = .ok (.aload_n 0, 1) := by decide +kernel
theorem dX7_makeAnalysis_40 : decode cX7_makeAnalysis 40 = .ok (.getfield 25, 3) := by decide +kernel
theorem dX7_makeAnalysis_43 : decode cX7_makeAnalysis 43 = .ok (.getfield 75, 3) := by decide +kernel
theorem dX7_makeAnalysis_46 : decode cX7_makeAnalysis 46 = .ok (.ireturn, 1) := by decide +kernel
theorem dX7_scale_0 : decode cX7_scale 0 = .ok (.aload_n 0, 1) := by decide +kernel
theorem dX7_scale_1 : decode cX7_scale 1 = .ok (.getfield 25, 3) := by decide +kernel
theorem dX7_scale_4 : decode cX7_scale 4 = .ok (.getfield 75, 3) := by decide +kernel
theorem dX7_scale_7 : decode cX7_scale 7 = .ok (.ifCond .le 23, 3) := by decide +kernel
theorem dX7_scale_10 : decode cX7_scale 10 = .ok (.iload_n 1, 1) := by decide +kernel
theorem dX7_scale_11 : decode cX7_scale 11 = .ok (.aload_n 0, 1) := by decide +kernel
theorem dX7_scale_12 : decode cX7_scale 12 = .ok (.getfield 18, 3) := by decide +kernel
theorem dX7_scale_15 : decode cX7_scale 15 = .ok (.getfield 52, 3) := by decide +kernel
theorem dX7_scale_18 : decode cX7_scale 18 = .ok (.imul, 1) := by decide +kernel
theorem dX7_scale_19 : decode cX7_scale 19 = .ok (.aload_n 0, 1) := by decide +kernel
theorem dX7_scale_20 : decode cX7_scale 20 = .ok (.getfield 25, 3) := by decide +kernel
theorem dX7_scale_23 : decode cX7_scale 23 = .ok (.getfield 75, 3) := by decide +kernel
theorem dX7_scale_26 : decode cX7_scale 26 = .ok (.idiv, 1) := by decide +kernel
theorem dX7_scale_27 : decode cX7_scale 27 = .ok (.goto 4, 3) := by decide +kernel
theorem dX7_scale_30 : decode cX7_scale 30 = .ok (.iconst 0, 1) := by decide +kernel
theorem dX7_scale_31 : decode cX7_scale 31 = .ok (.ireturn, 1) := by decide +kernel
theorem dX7_copyFrom_0 : decode cX7_copyFrom 0 = .ok (.aload_n 1, 1) := by decide +kernel
theorem dX7_copyFrom_1 : decode cX7_copyFrom 1 = .ok (.getfield 9, 3) := by decide +kernel
theorem dX7_copyFrom_4 : decode cX7_copyFrom 4 = .ok (.aload_n 0, 1) := by decide +kernel
theorem dX7_copyFrom_5 : decode cX7_copyFrom 5 = .ok (.getfield 9, 3) := by decide +kernel
theorem dX7_copyFrom_8 : decode cX7_copyFrom 8 = .ok (.invokestatic 78, 3) := by decide +kernel
theorem dX7_copyFrom_11 : decode cX7_copyFrom 11 = .ok (.aload_n 0, 1) := by decide +kernel
theorem dX7_copyFrom_12 : decode cX7_copyFrom 12 = .ok (.getfield 18, 3) := by decide +kernel
theorem dX7_copyFrom_15 : decode cX7_copyFrom 15 = .ok (.aload_n 1, 1) := by decide +kernel
theorem dX7_copyFrom_16 : decode cX7_copyFrom 16 = .ok (.getfield 18, 3) := by decide +kernel
theorem dX7_copyFrom_19 : decode cX7_copyFrom 19 = .ok (.invokevirtual 82, 3) := by decide +kernel
theorem dX7_copyFrom_22 : decode cX7_copyFrom 22 = .ok (.aload_n 0, 1) := by decide +kernel
theorem dX7_copyFrom_23 : decode cX7_copyFrom 23 = .ok (.getfield 25, 3) := by decide +kernel
theorem dX7_copyFrom_26 : decode cX7_copyFrom 26 = .ok (.aload_n 1, 1) := by decide +kernel
theorem dX7_copyFrom_27 : decode cX7_copyFrom 27 = .ok (.getfield 25, 3) := by decide +kernel
theorem dX7_copyFrom_30 : decode cX7_copyFrom 30 = .ok (.invokevirtual 86, 3) := by decide +kernel
theorem dX7_copyFrom_33 : decode cX7_copyFrom 33 = .ok (.return_, 1) := by decide +kernel
theorem dX8_init_0 : decode cX8_init 0 = .ok (.aload_n 0, 1) := by decide +kernel
theorem dX8_init_1 : decode cX8_init 1 = .ok (.invokespecial 3, 3) := by decide +kernel
theorem dX8_init_4 : decode cX8_init 4 = .ok (.aload_n 0, 1) := by decide +kernel
theorem dX8_init_5 : decode cX8_init 5 = .ok (.bipush 60, 2) := by decide +kernel
theorem dX8_init_7 : decode cX8_init 7 = .ok (.newarray .int, 2) := by decide +kernel
theorem dX8_init_9 : decode cX8_init 9 = .ok (.putfield 9, 3) := by decide +kernel
theorem dX8_init_12 : decode cX8_init 12 = .ok (.aload_n 0, 1) := by decide +kernel
theorem dX8_init_13 : decode cX8_init 13 = .ok (.bipush 60, 2) := by decide +kernel
theorem dX8_init_15 : decode cX8_init 15 = .ok (.newarray .int, 2) := by decide +kernel
theorem dX8_init_17 : decode cX8_init 17 = .ok (.putfield 15, 3) := by decide +kernel
theorem dX8_init_20 : decode cX8_init 20 = .ok (.return_, 1) := by decide +kernel
theorem dX8_isFull_0 : decode cX8_isFull 0 = .ok (.aload_n 0, 1) := by decide +kernel
theorem dX8_isFull_1 : decode cX8_isFull 1 = .ok (.getfield 18, 3) := by decide +kernel
theorem dX8_isFull_4 : decode cX8_isFull 4 = .ok (.bipush 60, 2) := by decide +kernel
theorem dX8_isFull_6 : decode cX8_isFull 6 = .ok (.if_icmp .lt 7, 3) := by decide +kernel
theorem dX8_isFull_9 : decode cX8_isFull 9 = .ok (.iconst 1, 1) := by decide +kernel
theorem dX8_isFull_10 : decode cX8_isFull 10 = .ok (.goto 4, 3) := by decide +kernel
theorem dX8_isFull_13 : decode cX8_isFull 13 = .ok (.iconst 0, 1) := by decide +kernel
theorem dX8_isFull_14 : decode cX8_isFull 14 = .ok (.ireturn, 1) := by decide +kernel
theorem dX8_hasRow_0 : decode cX8_hasRow 0 = .ok (.iload_n 1, 1) := by decide +kernel
theorem dX8_hasRow_1 : decode cX8_hasRow 1 = .ok (.ifCond .lt 15, 3) := by decide +kernel
theorem dX8_hasRow_4 : decode cX8_hasRow 4 = .ok (.iload_n 1, 1) := by decide +kernel
theorem dX8_hasRow_5 : decode cX8_hasRow 5 = .ok (.aload_n 0, 1) := by decide +kernel
theorem dX8_hasRow_6 : decode cX8_hasRow 6 = .ok (.getfield 18, 3) := by decide +kernel
theorem dX8_hasRow_9 : decode cX8_hasRow 9 = .ok (.if_icmp .ge 7, 3) := by decide +kernel
theorem dX8_hasRow_12 : decode cX8_hasRow 12 = .ok (.iconst 1, 1) := by decide +kernel
theorem dX8_hasRow_13 : decode cX8_hasRow 13 = .ok (.goto 4, 3) := by decide +kernel
theorem dX8_hasRow_16 : decode cX8_hasRow 16 = .ok (.iconst 0, 1) := by decide +kernel
theorem dX8_hasRow_17 : decode cX8_hasRow 17 = .ok (.ireturn, 1) := by decide +kernel
theorem dX8_value_0 : decode cX8_value 0 = .ok (.iload_n 1, 1) := by decide +kernel
theorem dX8_value_1 : decode cX8_value 1 = .ok (.ifCond .lt 11, 3) := by decide +kernel
theorem dX8_value_4 : decode cX8_value 4 = .ok (.iload_n 1, 1) := by decide +kernel
theorem dX8_value_5 : decode cX8_value 5 = .ok (.aload_n 0, 1) := by decide +kernel
theorem dX8_value_6 : decode cX8_value 6 = .ok (.getfield 18, 3) := by decide +kernel
theorem dX8_value_9 : decode cX8_value 9 = .ok (.if_icmp .lt 5, 3) := by decide +kernel
theorem dX8_value_12 : decode cX8_value 12 = .ok (.iconst 0, 1) := by decide +kernel
theorem dX8_value_13 : decode cX8_value 13 = .ok (.ireturn, 1) := by decide +kernel
theorem dX8_value_14 : decode cX8_value 14 = .ok (.iload_n 2, 1) := by decide +kernel
theorem dX8_value_15 : decode cX8_value 15 = .ok (.ifCond .ne 12, 3) := by decide +kernel
theorem dX8_value_18 : decode cX8_value 18 = .ok (.aload_n 0, 1) := by decide +kernel
theorem dX8_value_19 : decode cX8_value 19 = .ok (.getfield 9, 3) := by decide +kernel
theorem dX8_value_22 : decode cX8_value 22 = .ok (.iload_n 1, 1) := by decide +kernel
theorem dX8_value_23 : decode cX8_value 23 = .ok (.iaload, 1) := by decide +kernel
theorem dX8_value_24 : decode cX8_value 24 = .ok (.goto 9, 3) := by decide +kernel
theorem dX8_value_27 : decode cX8_value 27 = .ok (.aload_n 0, 1) := by decide +kernel
theorem dX8_value_28 : decode cX8_value 28 = .ok (.getfield 15, 3) := by decide +kernel
theorem dX8_value_31 : decode cX8_value 31 = .ok (.iload_n 1, 1) := by decide +kernel
theorem dX8_value_32 : decode cX8_value 32 = .ok (.iaload, 1) := by decide +kernel
theorem dX8_value_33 : decode cX8_value 33 = .ok (.ireturn, 1) := by decide +kernel
theorem dX8_add_0 : decode cX8_add 0 = .ok (.aload_n 0, 1) := by decide +kernel
theorem dX8_add_1 : decode cX8_add 1 = .ok (.getfield 18, 3) := by decide +kernel
theorem dX8_add_4 : decode cX8_add 4 = .ok (.ifCond .lt 10, 3) := by decide +kernel
theorem dX8_add_7 : decode cX8_add 7 = .ok (.aload_n 0, 1) := by decide +kernel
theorem dX8_add_8 : decode cX8_add 8 = .ok (.invokevirtual 22, 3) := by decide +kernel
theorem dX8_add_11 : decode cX8_add 11 = .ok (.ifCond .eq 4, 3) := by decide +kernel
theorem dX8_add_14 : decode cX8_add 14 = .ok (.return_, 1) := by decide +kernel
theorem dX8_add_15 : decode cX8_add 15 = .ok (.aload_n 0, 1) := by decide +kernel
theorem dX8_add_16 : decode cX8_add 16 = .ok (.getfield 9, 3) := by decide +kernel
theorem dX8_add_19 : decode cX8_add 19 = .ok (.aload_n 0, 1) := by decide +kernel
theorem dX8_add_20 : decode cX8_add 20 = .ok (.getfield 18, 3) := by decide +kernel
theorem dX8_add_23 : decode cX8_add 23 = .ok (.iload_n 1, 1) := by decide +kernel
theorem dX8_add_24 : decode cX8_add 24 = .ok (.iastore, 1) := by decide +kernel
theorem dX8_add_25 : decode cX8_add 25 = .ok (.aload_n 0, 1) := by decide +kernel
theorem dX8_add_26 : decode cX8_add 26 = .ok (.getfield 15, 3) := by decide +kernel
theorem dX8_add_29 : decode cX8_add 29 = .ok (.aload_n 0, 1) := by decide +kernel
theorem dX8_add_30 : decode cX8_add 30 = .ok (.getfield 18, 3) := by decide +kernel
theorem dX8_add_33 : decode cX8_add 33 = .ok (.iload_n 2, 1) := by decide +kernel
theorem dX8_add_34 : decode cX8_add 34 = .ok (.iastore, 1) := by decide +kernel
theorem dX8_add_35 : decode cX8_add 35 = .ok (.aload_n 0, 1) := by decide +kernel
theorem dX8_add_36 : decode cX8_add 36 = .ok (.dup, 1) := by decide +kernel
theorem dX8_add_37 : decode cX8_add 37 = .ok (.getfield 18, 3) := by decide +kernel
theorem dX8_add_40 : decode cX8_add 40 = .ok (.iconst 1, 1) := by decide +kernel
theorem dX8_add_41 : decode cX8_add 41 = .ok (.iadd, 1) := by decide +kernel
theorem dX8_add_42 : decode cX8_add 42 = .ok (.putfield 18, 3) := by decide +kernel
theorem dX8_add_45 : decode cX8_add 45 = .ok (.return_, 1) := by decide +kernel
theorem dX8_drop_0 : decode cX8_drop 0 = .ok (.aload_n 0, 1) := by decide +kernel
theorem dX8_drop_1 : decode cX8_drop 1 = .ok (.iload_n 1, 1) := by decide +kernel
theorem dX8_drop_2 : decode cX8_drop 2 = .ok (.invokevirtual 26, 3) := by decide +kernel
theorem dX8_drop_5 : decode cX8_drop 5 = .ok (.ifCond .ne 4, 3) := by decide +kernel
theorem dX8_drop_8 : decode cX8_drop 8 = .ok (.return_, 1) := by decide +kernel
theorem dX8_drop_9 : decode cX8_drop 9 = .ok (.iload_n 1, 1) := by decide +kernel
theorem dX8_drop_10 : decode cX8_drop 10 = .ok (.istore_n 2, 1) := by decide +kernel
theorem dX8_drop_11 : decode cX8_drop 11 = .ok (.iload_n 2, 1) := by decide +kernel
theorem dX8_drop_12 : decode cX8_drop 12 = .ok (.iconst 1, 1) := by decide +kernel
theorem dX8_drop_13 : decode cX8_drop 13 = .ok (.iadd, 1) := by decide +kernel
theorem dX8_drop_14 : decode cX8_drop 14 = .ok (.aload_n 0, 1) := by decide +kernel
theorem dX8_drop_15 : decode cX8_drop 15 = .ok (.getfield 18, 3) := by decide +kernel
theorem dX8_drop_18 : decode cX8_drop 18 = .ok (.if_icmp .ge 37, 3) := by decide +kernel
theorem dX8_drop_21 : decode cX8_drop 21 = .ok (.aload_n 0, 1) := by decide +kernel
theorem dX8_drop_22 : decode cX8_drop 22 = .ok (.getfield 9, 3) := by decide +kernel
theorem dX8_drop_25 : decode cX8_drop 25 = .ok (.iload_n 2, 1) := by decide +kernel
theorem dX8_drop_26 : decode cX8_drop 26 = .ok (.aload_n 0, 1) := by decide +kernel
theorem dX8_drop_27 : decode cX8_drop 27 = .ok (.getfield 9, 3) := by decide +kernel
theorem dX8_drop_30 : decode cX8_drop 30 = .ok (.iload_n 2, 1) := by decide +kernel
theorem dX8_drop_31 : decode cX8_drop 31 = .ok (.iconst 1, 1) := by decide +kernel
theorem dX8_drop_32 : decode cX8_drop 32 = .ok (.iadd, 1) := by decide +kernel
theorem dX8_drop_33 : decode cX8_drop 33 = .ok (.iaload, 1) := by decide +kernel
theorem dX8_drop_34 : decode cX8_drop 34 = .ok (.iastore, 1) := by decide +kernel
theorem dX8_drop_35 : decode cX8_drop 35 = .ok (.aload_n 0, 1) := by decide +kernel
theorem dX8_drop_36 : decode cX8_drop 36 = .ok (.getfield 15, 3) := by decide +kernel
theorem dX8_drop_39 : decode cX8_drop 39 = .ok (.iload_n 2, 1) := by decide +kernel
theorem dX8_drop_40 : decode cX8_drop 40 = .ok (.aload_n 0, 1) := by decide +kernel
theorem dX8_drop_41 : decode cX8_drop 41 = .ok (.getfield 15, 3) := by decide +kernel
theorem dX8_drop_44 : decode cX8_drop 44 = .ok (.iload_n 2, 1) := by decide +kernel
theorem dX8_drop_45 : decode cX8_drop 45 = .ok (.iconst 1, 1) := by decide +kernel
theorem dX8_drop_46 : decode cX8_drop 46 = .ok (.iadd, 1) := by decide +kernel
theorem dX8_drop_47 : decode cX8_drop 47 = .ok (.iaload, 1) := by decide +kernel
theorem dX8_drop_48 : decode cX8_drop 48 = .ok (.iastore, 1) := by decide +kernel
theorem dX8_drop_49 : decode cX8_drop 49 = .ok (.iinc 2 1, 3) := by decide +kernel
theorem dX8_drop_52 : decode cX8_drop 52 = .ok (.goto (-41), 3) := by decide +kernel
theorem dX8_drop_55 : decode cX8_drop 55 = .ok (.aload_n 0, 1) := by decide +kernel
theorem dX8_drop_56 : decode cX8_drop 56 = .ok (.dup, 1) := by decide +kernel
theorem dX8_drop_57 : decode cX8_drop 57 = .ok (.getfield 18, 3) := by decide +kernel
theorem dX8_drop_60 : decode cX8_drop 60 = .ok (.iconst 1, 1) := by decide +kernel
theorem dX8_drop_61 : decode cX8_drop 61 = .ok (.isub, 1) := by decide +kernel
theorem dX8_drop_62 : decode cX8_drop 62 = .ok (.putfield 18, 3) := by decide +kernel
theorem dX8_drop_65 : decode cX8_drop 65 = .ok (.return_, 1) := by decide +kernel
theorem dX8_rowsInside_0 : decode cX8_rowsInside 0 = .ok (.iload_n 1, 1) := by decide +kernel
theorem dX8_rowsInside_1 : decode cX8_rowsInside 1 = .ok (.ifCond .ne 15, 3) := by decide +kernel
theorem dX8_rowsInside_4 : decode cX8_rowsInside 4 = .ok (.aload_n 0, 1) := by decide +kernel
theorem dX8_rowsInside_5 : decode cX8_rowsInside 5 = .ok (.iload_n 2, 1) := by decide +kernel
theorem dX8_rowsInside_6 : decode cX8_rowsInside 6 = .ok (.iload_n 3, 1) := by decide +kernel
theorem dX8_rowsInside_7 : decode cX8_rowsInside 7 = .ok (.iconst 0, 1) := by decide +kernel
theorem dX8_rowsInside_8 : decode cX8_rowsInside 8 = .ok (.bipush 99, 2) := by decide +kernel
theorem dX8_rowsInside_10 : decode cX8_rowsInside 10 = .ok (.invokevirtual 30, 3) := by decide +kernel
theorem dX8_rowsInside_13 : decode cX8_rowsInside 13 = .ok (.goto 12, 3) := by decide +kernel
theorem dX8_rowsInside_16 : decode cX8_rowsInside 16 = .ok (.aload_n 0, 1) := by decide +kernel
theorem dX8_rowsInside_17 : decode cX8_rowsInside 17 = .ok (.iconst 0, 1) := by decide +kernel
theorem dX8_rowsInside_18 : decode cX8_rowsInside 18 = .ok (.bipush 99, 2) := by decide +kernel
theorem dX8_rowsInside_20 : decode cX8_rowsInside 20 = .ok (.iload_n 2, 1) := by decide +kernel
theorem dX8_rowsInside_21 : decode cX8_rowsInside 21 = .ok (.iload_n 3, 1) := by decide +kernel
theorem dX8_rowsInside_22 : decode cX8_rowsInside 22 = .ok (.invokevirtual 30, 3) := by decide +kernel
theorem dX8_rowsInside_25 : decode cX8_rowsInside 25 = .ok (.ireturn, 1) := by decide +kernel
theorem dX8_rowsInsideBoth_0 : decode cX8_rowsInsideBoth 0 = .ok (.iconst 0, 1) := by decide +kernel
theorem dX8_rowsInsideBoth_1 : decode cX8_rowsInsideBoth 1 = .ok (.istore 5, 2) := by decide +kernel
theorem dX8_rowsInsideBoth_3 : decode cX8_rowsInsideBoth 3 = .ok (.iconst 0, 1) := by decide +kernel
theorem dX8_rowsInsideBoth_4 : decode cX8_rowsInsideBoth 4 = .ok (.istore 6, 2) := by decide +kernel
theorem dX8_rowsInsideBoth_6 : decode cX8_rowsInsideBoth 6 = .ok (.iload 6, 2) := by decide +kernel
theorem dX8_rowsInsideBoth_8 : decode cX8_rowsInsideBoth 8 = .ok (.aload_n 0, 1) := by decide +kernel
theorem dX8_rowsInsideBoth_9 : decode cX8_rowsInsideBoth 9 = .ok (.getfield 18, 3) := by decide +kernel
theorem dX8_rowsInsideBoth_12 : decode cX8_rowsInsideBoth 12 = .ok (.if_icmp .ge 43, 3) := by decide +kernel
theorem dX8_rowsInsideBoth_15 : decode cX8_rowsInsideBoth 15 = .ok (.aload_n 0, 1) := by decide +kernel
theorem dX8_rowsInsideBoth_16 : decode cX8_rowsInsideBoth 16 = .ok (.getfield 9, 3) := by decide +kernel
theorem dX8_rowsInsideBoth_19 : decode cX8_rowsInsideBoth 19 = .ok (.iload 6, 2) := by decide +kernel
theorem dX8_rowsInsideBoth_21 : decode cX8_rowsInsideBoth 21 = .ok (.iaload, 1) := by decide +kernel
theorem dX8_rowsInsideBoth_22 : decode cX8_rowsInsideBoth 22 = .ok (.iload_n 1, 1) := by decide +kernel
theorem dX8_rowsInsideBoth_23 : decode cX8_rowsInsideBoth 23 = .ok (.iload_n 2, 1) := by decide +kernel
theorem dX8_rowsInsideBoth_24 : decode cX8_rowsInsideBoth 24 = .ok (.invokestatic 34, 3) := by decide +kernel
theorem dX8_rowsInsideBoth_27 : decode cX8_rowsInsideBoth 27 = .ok (.ifCond .eq 22, 3) := by decide +kernel
theorem dX8_rowsInsideBoth_30 : decode cX8_rowsInsideBoth 30 = .ok (.aload_n 0, 1) := by decide +kernel
theorem dX8_rowsInsideBoth_31 : decode cX8_rowsInsideBoth 31 = .ok (.getfield 15, 3) := by decide +kernel
theorem dX8_rowsInsideBoth_34 : decode cX8_rowsInsideBoth 34 = .ok (.iload 6, 2) := by decide +kernel
theorem dX8_rowsInsideBoth_36 : decode cX8_rowsInsideBoth 36 = .ok (.iaload, 1) := by decide +kernel
theorem dX8_rowsInsideBoth_37 : decode cX8_rowsInsideBoth 37 = .ok (.iload_n 3, 1) := by decide +kernel
theorem dX8_rowsInsideBoth_38 : decode cX8_rowsInsideBoth 38 = .ok (.iload 4, 2) := by decide +kernel
theorem dX8_rowsInsideBoth_40 : decode cX8_rowsInsideBoth 40 = .ok (.invokestatic 34, 3) := by decide +kernel
theorem dX8_rowsInsideBoth_43 : decode cX8_rowsInsideBoth 43 = .ok (.ifCond .eq 6, 3) := by decide +kernel
theorem dX8_rowsInsideBoth_46 : decode cX8_rowsInsideBoth 46 = .ok (.iinc 5 1, 3) := by decide +kernel
theorem dX8_rowsInsideBoth_49 : decode cX8_rowsInsideBoth 49 = .ok (.iinc 6 1, 3) := by decide +kernel
theorem dX8_rowsInsideBoth_52 : decode cX8_rowsInsideBoth 52 = .ok (.goto (-46), 3) := by decide +kernel
theorem dX8_rowsInsideBoth_55 : decode cX8_rowsInsideBoth 55 = .ok (.iload 5, 2) := by decide +kernel
theorem dX8_rowsInsideBoth_57 : decode cX8_rowsInsideBoth 57 = .ok (.ireturn, 1) := by decide +kernel
theorem dX8_rowsLike_0 : decode cX8_rowsLike 0 = .ok (.iload_n 1, 1) := by decide +kernel
theorem dX8_rowsLike_1 : decode cX8_rowsLike 1 = .ok (.ifCond .lt 11, 3) := by decide +kernel
theorem dX8_rowsLike_4 : decode cX8_rowsLike 4 = .ok (.iload_n 1, 1) := by decide +kernel
theorem dX8_rowsLike_5 : decode cX8_rowsLike 5 = .ok (.aload_n 0, 1) := by decide +kernel
theorem dX8_rowsLike_6 : decode cX8_rowsLike 6 = .ok (.getfield 18, 3) := by decide +kernel
theorem dX8_rowsLike_9 : decode cX8_rowsLike 9 = .ok (.if_icmp .lt 5, 3) := by decide +kernel
theorem dX8_rowsLike_12 : decode cX8_rowsLike 12 = .ok (.iconst 0, 1) := by decide +kernel
theorem dX8_rowsLike_13 : decode cX8_rowsLike 13 = .ok (.ireturn, 1) := by decide +kernel
theorem dX8_rowsLike_14 : decode cX8_rowsLike 14 = .ok (.iconst 0, 1) := by decide +kernel
theorem dX8_rowsLike_15 : decode cX8_rowsLike 15 = .ok (.istore_n 2, 1) := by decide +kernel
theorem dX8_rowsLike_16 : decode cX8_rowsLike 16 = .ok (.iconst 0, 1) := by decide +kernel
theorem dX8_rowsLike_17 : decode cX8_rowsLike 17 = .ok (.istore_n 3, 1) := by decide +kernel
theorem dX8_rowsLike_18 : decode cX8_rowsLike 18 = .ok (.iload_n 3, 1) := by decide +kernel
theorem dX8_rowsLike_19 : decode cX8_rowsLike 19 = .ok (.aload_n 0, 1) := by decide +kernel
theorem dX8_rowsLike_20 : decode cX8_rowsLike 20 = .ok (.getfield 18, 3) := by decide +kernel
theorem dX8_rowsLike_23 : decode cX8_rowsLike 23 = .ok (.if_icmp .ge 42, 3) := by decide +kernel
theorem dX8_rowsLike_26 : decode cX8_rowsLike 26 = .ok (.aload_n 0, 1) := by decide +kernel
theorem dX8_rowsLike_27 : decode cX8_rowsLike 27 = .ok (.getfield 9, 3) := by decide +kernel
theorem dX8_rowsLike_30 : decode cX8_rowsLike 30 = .ok (.iload_n 3, 1) := by decide +kernel
theorem dX8_rowsLike_31 : decode cX8_rowsLike 31 = .ok (.iaload, 1) := by decide +kernel
theorem dX8_rowsLike_32 : decode cX8_rowsLike 32 = .ok (.aload_n 0, 1) := by decide +kernel
theorem dX8_rowsLike_33 : decode cX8_rowsLike 33 = .ok (.getfield 9, 3) := by decide +kernel
theorem dX8_rowsLike_36 : decode cX8_rowsLike 36 = .ok (.iload_n 1, 1) := by decide +kernel
theorem dX8_rowsLike_37 : decode cX8_rowsLike 37 = .ok (.iaload, 1) := by decide +kernel
theorem dX8_rowsLike_38 : decode cX8_rowsLike 38 = .ok (.if_icmp .ne 21, 3) := by decide +kernel
theorem dX8_rowsLike_41 : decode cX8_rowsLike 41 = .ok (.aload_n 0, 1) := by decide +kernel
theorem dX8_rowsLike_42 : decode cX8_rowsLike 42 = .ok (.getfield 15, 3) := by decide +kernel
theorem dX8_rowsLike_45 : decode cX8_rowsLike 45 = .ok (.iload_n 3, 1) := by decide +kernel
theorem dX8_rowsLike_46 : decode cX8_rowsLike 46 = .ok (.iaload, 1) := by decide +kernel
theorem dX8_rowsLike_47 : decode cX8_rowsLike 47 = .ok (.aload_n 0, 1) := by decide +kernel
theorem dX8_rowsLike_48 : decode cX8_rowsLike 48 = .ok (.getfield 15, 3) := by decide +kernel
theorem dX8_rowsLike_51 : decode cX8_rowsLike 51 = .ok (.iload_n 1, 1) := by decide +kernel
theorem dX8_rowsLike_52 : decode cX8_rowsLike 52 = .ok (.iaload, 1) := by decide +kernel
theorem dX8_rowsLike_53 : decode cX8_rowsLike 53 = .ok (.if_icmp .ne 6, 3) := by decide +kernel
theorem dX8_rowsLike_56 : decode cX8_rowsLike 56 = .ok (.iinc 2 1, 3) := by decide +kernel
theorem dX8_rowsLike_59 : decode cX8_rowsLike 59 = .ok (.iinc 3 1, 3) := by decide +kernel
theorem dX8_rowsLike_62 : decode cX8_rowsLike 62 = .ok (.goto (-44), 3) := by decide +kernel
theorem dX8_rowsLike_65 : decode cX8_rowsLike 65 = .ok (.iload_n 2, 1) := by decide +kernel
theorem dX8_rowsLike_66 : decode cX8_rowsLike 66 = .ok (.ireturn, 1) := by decide +kernel
theorem dX8_copyFrom_0 : decode cX8_copyFrom 0 = .ok (.aload_n 1, 1) := by decide +kernel
theorem dX8_copyFrom_1 : decode cX8_copyFrom 1 = .ok (.getfield 9, 3) := by decide +kernel
theorem dX8_copyFrom_4 : decode cX8_copyFrom 4 = .ok (.aload_n 0, 1) := by decide +kernel
theorem dX8_copyFrom_5 : decode cX8_copyFrom 5 = .ok (.getfield 9, 3) := by decide +kernel
theorem dX8_copyFrom_8 : decode cX8_copyFrom 8 = .ok (.invokestatic 38, 3) := by decide +kernel
theorem dX8_copyFrom_11 : decode cX8_copyFrom 11 = .ok (.aload_n 1, 1) := by decide +kernel
theorem dX8_copyFrom_12 : decode cX8_copyFrom 12 = .ok (.getfield 15, 3) := by decide +kernel
theorem dX8_copyFrom_15 : decode cX8_copyFrom 15 = .ok (.aload_n 0, 1) := by decide +kernel
theorem dX8_copyFrom_16 : decode cX8_copyFrom 16 = .ok (.getfield 15, 3) := by decide +kernel
theorem dX8_copyFrom_19 : decode cX8_copyFrom 19 = .ok (.invokestatic 38, 3) := by decide +kernel
theorem dX8_copyFrom_22 : decode cX8_copyFrom 22 = .ok (.aload_n 0, 1) := by decide +kernel
theorem dX8_copyFrom_23 : decode cX8_copyFrom 23 = .ok (.aload_n 1, 1) := by decide +kernel
theorem dX8_copyFrom_24 : decode cX8_copyFrom 24 = .ok (.getfield 18, 3) := by decide +kernel
theorem dX8_copyFrom_27 : decode cX8_copyFrom 27 = .ok (.putfield 18, 3) := by decide +kernel
theorem dX8_copyFrom_30 : decode cX8_copyFrom 30 = .ok (.return_, 1) := by decide +kernel
theorem dX9_init_0 : decode cX9_init 0 = .ok (.aload_n 0, 1) := by decide +kernel
theorem dX9_init_1 : decode cX9_init 1 = .ok (.invokespecial 3, 3) := by decide +kernel
theorem dX9_init_4 : decode cX9_init 4 = .ok (.aload_n 0, 1) := by decide +kernel
theorem dX9_init_5 : decode cX9_init 5 = .ok (.new 9, 3) := by decide +kernel
theorem dX9_init_8 : decode cX9_init 8 = .ok (.dup, 1) := by decide +kernel
theorem dX9_init_9 : decode cX9_init 9 = .ok (.invokespecial 11, 3) := by decide +kernel
theorem dX9_init_12 : decode cX9_init 12 = .ok (.putfield 12, 3) := by decide +kernel
theorem dX9_init_15 : decode cX9_init 15 = .ok (.aload_n 0, 1) := by decide +kernel
theorem dX9_init_16 : decode cX9_init 16 = .ok (.iconst 2, 1) := by decide +kernel
theorem dX9_init_17 : decode cX9_init 17 = .ok (.anewarray 9, 3) := by decide +kernel
theorem dX9_init_20 : decode cX9_init 20 = .ok (.putfield 16, 3) := by decide +kernel
theorem dX9_init_23 : decode cX9_init 23 = .ok (.aload_n 0, 1) := by decide +kernel
theorem dX9_init_24 : decode cX9_init 24 = .ok (.new 20, 3) := by decide +kernel
theorem dX9_init_27 : decode cX9_init 27 = .ok (.dup, 1) := by decide +kernel
theorem dX9_init_28 : decode cX9_init 28 = .ok (.invokespecial 22, 3) := by decide +kernel
theorem dX9_init_31 : decode cX9_init 31 = .ok (.putfield 23, 3) := by decide +kernel
theorem dX9_init_34 : decode cX9_init 34 = .ok (.aload_n 0, 1) := by decide +kernel
theorem dX9_init_35 : decode cX9_init 35 = .ok (.new 27, 3) := by decide +kernel
theorem dX9_init_38 : decode cX9_init 38 = .ok (.dup, 1) := by decide +kernel
theorem dX9_init_39 : decode cX9_init 39 = .ok (.invokespecial 29, 3) := by decide +kernel
theorem dX9_init_42 : decode cX9_init 42 = .ok (.putfield 30, 3) := by decide +kernel
theorem dX9_init_45 : decode cX9_init 45 = .ok (.aload_n 0, 1) := by decide +kernel
theorem dX9_init_46 : decode cX9_init 46 = .ok (.new 34, 3) := by decide +kernel
theorem dX9_init_49 : decode cX9_init 49 = .ok (.dup, 1) := by decide +kernel
theorem dX9_init_50 : decode cX9_init 50 = .ok (.aload_n 0, 1) := by decide +kernel
theorem dX9_init_51 : decode cX9_init 51 = .ok (.getfield 30, 3) := by decide +kernel
theorem dX9_init_54 : decode cX9_init 54 = .ok (.invokespecial 36, 3) := by decide +kernel
theorem dX9_init_57 : decode cX9_init 57 = .ok (.putfield 39, 3) := by decide +kernel
theorem dX9_init_60 : decode cX9_init 60 = .ok (.aload_n 0, 1) := by decide +kernel
theorem dX9_init_61 : decode cX9_init 61 = .ok (.new 43, 3) := by decide +kernel
theorem dX9_init_64 : decode cX9_init 64 = .ok (.dup, 1) := by decide +kernel
theorem dX9_init_65 : decode cX9_init 65 = .ok (.invokespecial 45, 3) := by decide +kernel
theorem dX9_init_68 : decode cX9_init 68 = .ok (.putfield 46, 3) := by decide +kernel
theorem dX9_init_71 : decode cX9_init 71 = .ok (.return_, 1) := by decide +kernel
theorem dX9_set_0 : decode cX9_set 0 = .ok (.aload_n 0, 1) := by decide +kernel
theorem dX9_set_1 : decode cX9_set 1 = .ok (.getfield 23, 3) := by decide +kernel
theorem dX9_set_4 : decode cX9_set 4 = .ok (.aload_n 0, 1) := by decide +kernel
theorem dX9_set_5 : decode cX9_set 5 = .ok (.getfield 12, 3) := by decide +kernel
theorem dX9_set_8 : decode cX9_set 8 = .ok (.invokevirtual 50, 3) := by decide +kernel
theorem dX9_set_11 : decode cX9_set 11 = .ok (.aload_n 0, 1) := by decide +kernel
theorem dX9_set_12 : decode cX9_set 12 = .ok (.aload_n 0, 1) := by decide +kernel
theorem dX9_set_13 : decode cX9_set 13 = .ok (.getfield 12, 3) := by decide +kernel
theorem dX9_set_16 : decode cX9_set 16 = .ok (.iload_n 1, 1) := by decide +kernel
theorem dX9_set_17 : decode cX9_set 17 = .ok (.iload_n 2, 1) := by decide +kernel
theorem dX9_set_18 : decode cX9_set 18 = .ok (.invokevirtual 54, 3) := by decide +kernel
theorem dX9_set_21 : decode cX9_set 21 = .ok (.invokevirtual 58, 3) := by decide +kernel
theorem dX9_set_24 : decode cX9_set 24 = .ok (.ireturn, 1) := by decide +kernel
theorem dX9_insert_0 : decode cX9_insert 0 = .ok (.aload_n 0, 1) := by decide +kernel
theorem dX9_insert_1 : decode cX9_insert 1 = .ok (.getfield 23, 3) := by decide +kernel
theorem dX9_insert_4 : decode cX9_insert 4 = .ok (.aload_n 0, 1) := by decide +kernel
theorem dX9_insert_5 : decode cX9_insert 5 = .ok (.getfield 12, 3) := by decide +kernel
theorem dX9_insert_8 : decode cX9_insert 8 = .ok (.invokevirtual 50, 3) := by decide +kernel
theorem dX9_insert_11 : decode cX9_insert 11 = .ok (.aload_n 0, 1) := by decide +kernel
theorem dX9_insert_12 : decode cX9_insert 12 = .ok (.aload_n 0, 1) := by decide +kernel
theorem dX9_insert_13 : decode cX9_insert 13 = .ok (.getfield 12, 3) := by decide +kernel
theorem dX9_insert_16 : decode cX9_insert 16 = .ok (.iload_n 1, 1) := by decide +kernel
theorem dX9_insert_17 : decode cX9_insert 17 = .ok (.iload_n 2, 1) := by decide +kernel
theorem dX9_insert_18 : decode cX9_insert 18 = .ok (.invokevirtual 62, 3) := by decide +kernel
theorem dX9_insert_21 : decode cX9_insert 21 = .ok (.invokevirtual 58, 3) := by decide +kernel
theorem dX9_insert_24 : decode cX9_insert 24 = .ok (.ireturn, 1) := by decide +kernel
theorem dX9_remove_0 : decode cX9_remove 0 = .ok (.aload_n 0, 1) := by decide +kernel
theorem dX9_remove_1 : decode cX9_remove 1 = .ok (.getfield 23, 3) := by decide +kernel
theorem dX9_remove_4 : decode cX9_remove 4 = .ok (.aload_n 0, 1) := by decide +kernel
theorem dX9_remove_5 : decode cX9_remove 5 = .ok (.getfield 12, 3) := by decide +kernel
theorem dX9_remove_8 : decode cX9_remove 8 = .ok (.invokevirtual 50, 3) := by decide +kernel
theorem dX9_remove_11 : decode cX9_remove 11 = .ok (.aload_n 0, 1) := by decide +kernel
theorem dX9_remove_12 : decode cX9_remove 12 = .ok (.aload_n 0, 1) := by decide +kernel
theorem dX9_remove_13 : decode cX9_remove 13 = .ok (.getfield 12, 3) := by decide +kernel
theorem dX9_remove_16 : decode cX9_remove 16 = .ok (.iload_n 1, 1) := by decide +kernel
theorem dX9_remove_17 : decode cX9_remove 17 = .ok (.invokevirtual 65, 3) := by decide +kernel
theorem dX9_remove_20 : decode cX9_remove 20 = .ok (.invokevirtual 58, 3) := by decide +kernel
theorem dX9_remove_23 : decode cX9_remove 23 = .ok (.ireturn, 1) := by decide +kernel
theorem dX9_analyse_0 : decode cX9_analyse 0 = .ok (.aload_n 0, 1) := by decide +kernel
theorem dX9_analyse_1 : decode cX9_analyse 1 = .ok (.getfield 23, 3) := by decide +kernel
theorem dX9_analyse_4 : decode cX9_analyse 4 = .ok (.aload_n 0, 1) := by decide +kernel
theorem dX9_analyse_5 : decode cX9_analyse 5 = .ok (.getfield 12, 3) := by decide +kernel
theorem dX9_analyse_8 : decode cX9_analyse 8 = .ok (.invokevirtual 50, 3) := by decide +kernel
theorem dX9_analyse_11 : decode cX9_analyse 11 = .ok (.aload_n 0, 1) := by decide +kernel
theorem dX9_analyse_12 : decode cX9_analyse 12 = .ok (.aload_n 0, 1) := by decide +kernel
theorem dX9_analyse_13 : decode cX9_analyse 13 = .ok (.getfield 12, 3) := by decide +kernel
theorem dX9_analyse_16 : decode cX9_analyse 16 = .ok (.invokevirtual 68, 3) := by decide +kernel
theorem dX9_analyse_19 : decode cX9_analyse 19 = .ok (.invokevirtual 58, 3) := by decide +kernel
theorem dX9_analyse_22 : decode cX9_analyse 22 = .ok (.ireturn, 1) := by decide +kernel
theorem dX9_row_0 : decode cX9_row 0 = .ok (.aload_n 0, 1) := by decide +kernel
theorem dX9_row_1 : decode cX9_row 1 = .ok (.getfield 12, 3) := by decide +kernel
theorem dX9_row_4 : decode cX9_row 4 = .ok (.getfield 72, 3) := by decide +kernel
theorem dX9_row_7 : decode cX9_row 7 = .ok (.iload_n 1, 1) := by decide +kernel
theorem dX9_row_8 : decode cX9_row 8 = .ok (.invokevirtual 76, 3) := by decide +kernel
theorem dX9_row_11 : decode cX9_row 11 = .ok (.ifCond .ne 5, 3) := by decide +kernel
theorem dX9_row_14 : decode cX9_row 14 = .ok (.iconst (-1), 1) := by decide +kernel
theorem dX9_row_15 : decode cX9_row 15 = .ok (.ireturn, 1) := by decide +kernel
theorem dX9_row_16 : decode cX9_row 16 = .ok (.iload_n 2, 1) := by decide +kernel
theorem dX9_row_17 : decode cX9_row 17 = .ok (.invokestatic 82, 3) := by decide +kernel
theorem dX9_row_20 : decode cX9_row 20 = .ok (.ifCond .ne 6, 3) := by decide +kernel
theorem dX9_row_23 : decode cX9_row 23 = .ok (.bipush (-2), 2) := by decide +kernel
theorem dX9_row_25 : decode cX9_row 25 = .ok (.ireturn, 1) := by decide +kernel
theorem dX9_row_26 : decode cX9_row 26 = .ok (.aload_n 0, 1) := by decide +kernel
theorem dX9_row_27 : decode cX9_row 27 = .ok (.getfield 12, 3) := by decide +kernel
theorem dX9_row_30 : decode cX9_row 30 = .ok (.getfield 72, 3) := by decide +kernel
theorem dX9_row_33 : decode cX9_row 33 = .ok (.iload_n 1, 1) := by decide +kernel
theorem dX9_row_34 : decode cX9_row 34 = .ok (.iload_n 2, 1) := by decide +kernel
theorem dX9_row_35 : decode cX9_row 35 = .ok (.invokevirtual 85, 3) := by decide +kernel
theorem dX9_row_38 : decode cX9_row 38 = .ok (.ireturn, 1) := by decide +kernel
theorem dX9_bucket_0 : decode cX9_bucket 0 = .ok (.iload_n 1, 1) := by decide +kernel
theorem dX9_bucket_1 : decode cX9_bucket 1 = .ok (.invokestatic 82, 3) := by decide +kernel
theorem dX9_bucket_4 : decode cX9_bucket 4 = .ok (.ifCond .eq 12, 3) := by decide +kernel
theorem dX9_bucket_7 : decode cX9_bucket 7 = .ok (.iload_n 3, 1) := by decide +kernel
theorem dX9_bucket_8 : decode cX9_bucket 8 = .ok (.iconst 0, 1) := by decide +kernel
theorem dX9_bucket_9 : decode cX9_bucket 9 = .ok (.iconst 3, 1) := by decide +kernel
theorem dX9_bucket_10 : decode cX9_bucket 10 = .ok (.invokestatic 88, 3) := by decide +kernel
theorem dX9_bucket_13 : decode cX9_bucket 13 = .ok (.ifCond .ne 6, 3) := by decide +kernel
theorem dX9_bucket_16 : decode cX9_bucket 16 = .ok (.bipush (-2), 2) := by decide +kernel
theorem dX9_bucket_18 : decode cX9_bucket 18 = .ok (.ireturn, 1) := by decide +kernel
theorem dX9_bucket_19 : decode cX9_bucket 19 = .ok (.aload_n 0, 1) := by decide +kernel
theorem dX9_bucket_20 : decode cX9_bucket 20 = .ok (.getfield 12, 3) := by decide +kernel
theorem dX9_bucket_23 : decode cX9_bucket 23 = .ok (.getfield 92, 3) := by decide +kernel
theorem dX9_bucket_26 : decode cX9_bucket 26 = .ok (.iload_n 1, 1) := by decide +kernel
theorem dX9_bucket_27 : decode cX9_bucket 27 = .ok (.invokevirtual 96, 3) := by decide +kernel
theorem dX9_bucket_30 : decode cX9_bucket 30 = .ok (.iload_n 2, 1) := by decide +kernel
theorem dX9_bucket_31 : decode cX9_bucket 31 = .ok (.iload_n 3, 1) := by decide +kernel
theorem dX9_bucket_32 : decode cX9_bucket 32 = .ok (.invokevirtual 102, 3) := by decide +kernel
theorem dX9_bucket_35 : decode cX9_bucket 35 = .ok (.ireturn, 1) := by decide +kernel
theorem dX9_common_0 : decode cX9_common 0 = .ok (.iload_n 1, 1) := by decide +kernel
theorem dX9_common_1 : decode cX9_common 1 = .ok (.invokestatic 82, 3) := by decide +kernel
theorem dX9_common_4 : decode cX9_common 4 = .ok (.ifCond .eq 12, 3) := by decide +kernel
theorem dX9_common_7 : decode cX9_common 7 = .ok (.iload_n 3, 1) := by decide +kernel
theorem dX9_common_8 : decode cX9_common 8 = .ok (.iconst 0, 1) := by decide +kernel
theorem dX9_common_9 : decode cX9_common 9 = .ok (.iconst 1, 1) := by decide +kernel
theorem dX9_common_10 : decode cX9_common 10 = .ok (.invokestatic 88, 3) := by decide +kernel
theorem dX9_common_13 : decode cX9_common 13 = .ok (.ifCond .ne 6, 3) := by decide +kernel
theorem dX9_common_16 : decode cX9_common 16 = .ok (.bipush (-2), 2) := by decide +kernel
theorem dX9_common_18 : decode cX9_common 18 = .ok (.ireturn, 1) := by decide +kernel
theorem dX9_common_19 : decode cX9_common 19 = .ok (.aload_n 0, 1) := by decide +kernel
theorem dX9_common_20 : decode cX9_common 20 = .ok (.getfield 12, 3) := by decide +kernel
theorem dX9_common_23 : decode cX9_common 23 = .ok (.getfield 92, 3) := by decide +kernel
theorem dX9_common_26 : decode cX9_common 26 = .ok (.iload_n 1, 1) := by decide +kernel
theorem dX9_common_27 : decode cX9_common 27 = .ok (.invokevirtual 96, 3) := by decide +kernel
theorem dX9_common_30 : decode cX9_common 30 = .ok (.iload_n 2, 1) := by decide +kernel
theorem dX9_common_31 : decode cX9_common 31 = .ok (.iload_n 3, 1) := by decide +kernel
theorem dX9_common_32 : decode cX9_common 32 = .ok (.invokevirtual 105, 3) := by decide +kernel
theorem dX9_common_35 : decode cX9_common 35 = .ok (.ireturn, 1) := by decide +kernel
theorem dX9_pair_0 : decode cX9_pair 0 = .ok (.iload_n 2, 1) := by decide +kernel
theorem dX9_pair_1 : decode cX9_pair 1 = .ok (.iconst 0, 1) := by decide +kernel
theorem dX9_pair_2 : decode cX9_pair 2 = .ok (.iconst 2, 1) := by decide +kernel
theorem dX9_pair_3 : decode cX9_pair 3 = .ok (.invokestatic 88, 3) := by decide +kernel
theorem dX9_pair_6 : decode cX9_pair 6 = .ok (.ifCond .ne 6, 3) := by decide +kernel
theorem dX9_pair_9 : decode cX9_pair 9 = .ok (.bipush (-2), 2) := by decide +kernel
theorem dX9_pair_11 : decode cX9_pair 11 = .ok (.ireturn, 1) := by decide +kernel
theorem dX9_pair_12 : decode cX9_pair 12 = .ok (.aload_n 0, 1) := by decide +kernel
theorem dX9_pair_13 : decode cX9_pair 13 = .ok (.getfield 12, 3) := by decide +kernel
theorem dX9_pair_16 : decode cX9_pair 16 = .ok (.getfield 92, 3) := by decide +kernel
theorem dX9_pair_19 : decode cX9_pair 19 = .ok (.getfield 108, 3) := by decide +kernel
theorem dX9_pair_22 : decode cX9_pair 22 = .ok (.iload_n 1, 1) := by decide +kernel
theorem dX9_pair_23 : decode cX9_pair 23 = .ok (.iload_n 2, 1) := by decide +kernel
theorem dX9_pair_24 : decode cX9_pair 24 = .ok (.invokevirtual 112, 3) := by decide +kernel
theorem dX9_pair_27 : decode cX9_pair 27 = .ok (.ireturn, 1) := by decide +kernel
theorem dX9_count_0 : decode cX9_count 0 = .ok (.aload_n 0, 1) := by decide +kernel
theorem dX9_count_1 : decode cX9_count 1 = .ok (.getfield 12, 3) := by decide +kernel
theorem dX9_count_4 : decode cX9_count 4 = .ok (.getfield 92, 3) := by decide +kernel
theorem dX9_count_7 : decode cX9_count 7 = .ok (.astore_n 2, 1) := by decide +kernel
theorem dX9_count_8 : decode cX9_count 8 = .ok (.iload_n 1, 1) := by decide +kernel
theorem dX9_count_9 : decode cX9_count 9 = .ok (.tableswitch 197 0 14 #[75, 86, 91, 96, 101, 110, 119, 128, 137, 145, 154, 163, 172, 181, 189], 75) := by decide +kernel
theorem dX9_count_84 : decode cX9_count 84 = .ok (.aload_n 0, 1) := by decide +kernel
theorem dX9_count_85 : decode cX9_count 85 = .ok (.getfield 12, 3) := by decide +kernel
theorem dX9_count_88 : decode cX9_count 88 = .ok (.getfield 72, 3) := by decide +kernel
theorem dX9_count_91 : decode cX9_count 91 = .ok (.getfield 117, 3) := by decide +kernel
theorem dX9_count_94 : decode cX9_count 94 = .ok (.ireturn, 1) := by decide +kernel
theorem dX9_count_95 : decode cX9_count 95 = .ok (.aload_n 2, 1) := by decide +kernel
theorem dX9_count_96 : decode cX9_count 96 = .ok (.getfield 121, 3) := by decide +kernel
theorem dX9_count_99 : decode cX9_count 99 = .ok (.ireturn, 1) := by decide +kernel
theorem dX9_count_100 : decode cX9_count 100 = .ok (.aload_n 2, 1) := by decide +kernel
theorem dX9_count_101 : decode cX9_count 101 = .ok (.getfield 124, 3) := by decide +kernel
theorem dX9_count_104 : decode cX9_count 104 = .ok (.ireturn, 1) := by decide +kernel
theorem dX9_count_105 : decode cX9_count 105 = .ok (.aload_n 0, 1) := by decide +kernel
theorem dX9_count_106 : decode cX9_count 106 = .ok (.invokevirtual 127, 3) := by decide +kernel
theorem dX9_count_109 : decode cX9_count 109 = .ok (.ireturn, 1) := by decide +kernel
theorem dX9_count_110 : decode cX9_count 110 = .ok (.aload_n 2, 1) := by decide +kernel
theorem dX9_count_111 : decode cX9_count 111 = .ok (.iconst 0, 1) := by decide +kernel
theorem dX9_count_112 : decode cX9_count 112 = .ok (.invokevirtual 96, 3) := by decide +kernel
theorem dX9_count_115 : decode cX9_count 115 = .ok (.getfield 130, 3) := by decide +kernel
theorem dX9_count_118 : decode cX9_count 118 = .ok (.ireturn, 1) := by decide +kernel
theorem dX9_count_119 : decode cX9_count 119 = .ok (.aload_n 2, 1) := by decide +kernel
theorem dX9_count_120 : decode cX9_count 120 = .ok (.iconst 1, 1) := by decide +kernel
theorem dX9_count_121 : decode cX9_count 121 = .ok (.invokevirtual 96, 3) := by decide +kernel
theorem dX9_count_124 : decode cX9_count 124 = .ok (.getfield 130, 3) := by decide +kernel
theorem dX9_count_127 : decode cX9_count 127 = .ok (.ireturn, 1) := by decide +kernel
theorem dX9_count_128 : decode cX9_count 128 = .ok (.aload_n 2, 1) := by decide +kernel
theorem dX9_count_129 : decode cX9_count 129 = .ok (.iconst 0, 1) := by decide +kernel
theorem dX9_count_130 : decode cX9_count 130 = .ok (.invokevirtual 96, 3) := by decide +kernel
theorem dX9_count_133 : decode cX9_count 133 = .ok (.getfield 133, 3) := by decide +kernel
theorem dX9_count_136 : decode cX9_count 136 = .ok (.ireturn, 1) := by decide +kernel
theorem dX9_count_137 : decode cX9_count 137 = .ok (.aload_n 2, 1) := by decide +kernel
theorem dX9_count_138 : decode cX9_count 138 = .ok (.iconst 1, 1) := by decide +kernel
theorem dX9_count_139 : decode cX9_count 139 = .ok (.invokevirtual 96, 3) := by decide +kernel
theorem dX9_count_142 : decode cX9_count 142 = .ok (.getfield 133, 3) := by decide +kernel
theorem dX9_count_145 : decode cX9_count 145 = .ok (.ireturn, 1) := by decide +kernel
theorem dX9_count_146 : decode cX9_count 146 = .ok (.aload_n 2, 1) := by decide +kernel
theorem dX9_count_147 : decode cX9_count 147 = .ok (.getfield 108, 3) := by decide +kernel
theorem dX9_count_150 : decode cX9_count 150 = .ok (.getfield 136, 3) := by decide +kernel
theorem dX9_count_153 : decode cX9_count 153 = .ok (.ireturn, 1) := by decide +kernel
theorem dX9_count_154 : decode cX9_count 154 = .ok (.aload_n 0, 1) := by decide +kernel
theorem dX9_count_155 : decode cX9_count 155 = .ok (.getfield 12, 3) := by decide +kernel
theorem dX9_count_158 : decode cX9_count 158 = .ok (.iconst 0, 1) := by decide +kernel
theorem dX9_count_159 : decode cX9_count 159 = .ok (.invokevirtual 138, 3) := by decide +kernel
theorem dX9_count_162 : decode cX9_count 162 = .ok (.ireturn, 1) := by decide +kernel
theorem dX9_count_163 : decode cX9_count 163 = .ok (.aload_n 0, 1) := by decide +kernel
theorem dX9_count_164 : decode cX9_count 164 = .ok (.getfield 12, 3) := by decide +kernel
theorem dX9_count_167 : decode cX9_count 167 = .ok (.iconst 1, 1) := by decide +kernel
theorem dX9_count_168 : decode cX9_count 168 = .ok (.invokevirtual 138, 3) := by decide +kernel
theorem dX9_count_171 : decode cX9_count 171 = .ok (.ireturn, 1) := by decide +kernel
theorem dX9_count_172 : decode cX9_count 172 = .ok (.aload_n 0, 1) := by decide +kernel
theorem dX9_count_173 : decode cX9_count 173 = .ok (.getfield 12, 3) := by decide +kernel
theorem dX9_count_176 : decode cX9_count 176 = .ok (.iconst 2, 1) := by decide +kernel
theorem dX9_count_177 : decode cX9_count 177 = .ok (.invokevirtual 138, 3) := by decide +kernel
theorem dX9_count_180 : decode cX9_count 180 = .ok (.ireturn, 1) := by decide +kernel
theorem dX9_count_181 : decode cX9_count 181 = .ok (.aload_n 0, 1) := by decide +kernel
theorem dX9_count_182 : decode cX9_count 182 = .ok (.getfield 12, 3) := by decide +kernel
theorem dX9_count_185 : decode cX9_count 185 = .ok (.iconst 3, 1) := by decide +kernel
theorem dX9_count_186 : decode cX9_count 186 = .ok (.invokevirtual 138, 3) := by decide +kernel
theorem dX9_count_189 : decode cX9_count 189 = .ok (.ireturn, 1) := by decide +kernel
theorem dX9_count_190 : decode cX9_count 190 = .ok (.aload_n 0, 1) := by decide +kernel
theorem dX9_count_191 : decode cX9_count 191 = .ok (.getfield 30, 3) := by decide +kernel
theorem dX9_count_194 : decode cX9_count 194 = .ok (.getfield 141, 3) := by decide +kernel
theorem dX9_count_197 : decode cX9_count 197 = .ok (.ireturn, 1) := by decide +kernel
theorem dX9_count_198 : decode cX9_count 198 = .ok (.aload_n 0, 1) := by decide +kernel
theorem dX9_count_199 : decode cX9_count 199 = .ok (.getfield 23, 3) := by decide +kernel
theorem dX9_count_202 : decode cX9_count 202 = .ok (.getfield 144, 3) := by decide +kernel
theorem dX9_count_205 : decode cX9_count 205 = .ok (.ireturn, 1) := by decide +kernel
theorem dX9_count_206 : decode cX9_count 206 = .ok (.bipush (-2), 2) := by decide +kernel
theorem dX9_count_208 : decode cX9_count 208 = .ok (.ireturn, 1) := by decide +kernel
theorem dX9_tellStale_0 : decode cX9_tellStale 0 = .ok (.aload_n 0, 1) := by decide +kernel
theorem dX9_tellStale_1 : decode cX9_tellStale 1 = .ok (.getfield 12, 3) := by decide +kernel
theorem dX9_tellStale_4 : decode cX9_tellStale 4 = .ok (.getfield 92, 3) := by decide +kernel
theorem dX9_tellStale_7 : decode cX9_tellStale 7 = .ok (.invokevirtual 147, 3) := by decide +kernel
theorem dX9_tellStale_10 : decode cX9_tellStale 10 = .ok (.ifCond .ne 6, 3) := by decide +kernel
theorem dX9_tellStale_13 : decode cX9_tellStale 13 = .ok (.bipush (-6), 2) := by decide +kernel
theorem dX9_tellStale_15 : decode cX9_tellStale 15 = .ok (.ireturn, 1) := by decide +kernel
theorem dX9_tellStale_16 : decode cX9_tellStale 16 = .ok (.aload_n 0, 1) := by decide +kernel
theorem dX9_tellStale_17 : decode cX9_tellStale 17 = .ok (.getfield 12, 3) := by decide +kernel
theorem dX9_tellStale_20 : decode cX9_tellStale 20 = .ok (.getfield 92, 3) := by decide +kernel
theorem dX9_tellStale_23 : decode cX9_tellStale 23 = .ok (.aload_n 0, 1) := by decide +kernel
theorem dX9_tellStale_24 : decode cX9_tellStale 24 = .ok (.getfield 12, 3) := by decide +kernel
theorem dX9_tellStale_27 : decode cX9_tellStale 27 = .ok (.iconst 3, 1) := by decide +kernel
theorem dX9_tellStale_28 : decode cX9_tellStale 28 = .ok (.invokevirtual 138, 3) := by decide +kernel
theorem dX9_tellStale_31 : decode cX9_tellStale 31 = .ok (.invokevirtual 151, 3) := by decide +kernel
theorem dX9_tellStale_34 : decode cX9_tellStale 34 = .ok (.ifCond .eq 7, 3) := by decide +kernel
theorem dX9_tellStale_37 : decode cX9_tellStale 37 = .ok (.iconst 1, 1) := by decide +kernel
theorem dX9_tellStale_38 : decode cX9_tellStale 38 = .ok (.goto 4, 3) := by decide +kernel
theorem dX9_tellStale_41 : decode cX9_tellStale 41 = .ok (.iconst 0, 1) := by decide +kernel
theorem dX9_tellStale_42 : decode cX9_tellStale 42 = .ok (.ireturn, 1) := by decide +kernel
theorem dX9_estimate_0 : decode cX9_estimate 0 = .ok (.iload_n 1, 1) := by decide +kernel
theorem dX9_estimate_1 : decode cX9_estimate 1 = .ok (.invokestatic 82, 3) := by decide +kernel
theorem dX9_estimate_4 : decode cX9_estimate 4 = .ok (.ifCond .eq 21, 3) := by decide +kernel
theorem dX9_estimate_7 : decode cX9_estimate 7 = .ok (.iload_n 2, 1) := by decide +kernel
theorem dX9_estimate_8 : decode cX9_estimate 8 = .ok (.iload_n 3, 1) := by decide +kernel
theorem dX9_estimate_9 : decode cX9_estimate 9 = .ok (.invokestatic 154, 3) := by decide +kernel
theorem dX9_estimate_12 : decode cX9_estimate 12 = .ok (.ifCond .eq 13, 3) := by decide +kernel
theorem dX9_estimate_15 : decode cX9_estimate 15 = .ok (.iload 4, 2) := by decide +kernel
theorem dX9_estimate_17 : decode cX9_estimate 17 = .ok (.iconst 0, 1) := by decide +kernel
theorem dX9_estimate_18 : decode cX9_estimate 18 = .ok (.iconst 4, 1) := by decide +kernel
theorem dX9_estimate_19 : decode cX9_estimate 19 = .ok (.invokestatic 88, 3) := by decide +kernel
theorem dX9_estimate_22 : decode cX9_estimate 22 = .ok (.ifCond .ne 6, 3) := by decide +kernel
theorem dX9_estimate_25 : decode cX9_estimate 25 = .ok (.bipush (-2), 2) := by decide +kernel
theorem dX9_estimate_27 : decode cX9_estimate 27 = .ok (.ireturn, 1) := by decide +kernel
theorem dX9_estimate_28 : decode cX9_estimate 28 = .ok (.iload 4, 2) := by decide +kernel
theorem dX9_estimate_30 : decode cX9_estimate 30 = .ok (.iconst 4, 1) := by decide +kernel
theorem dX9_estimate_31 : decode cX9_estimate 31 = .ok (.if_icmp .ne 17, 3) := by decide +kernel
theorem dX9_estimate_34 : decode cX9_estimate 34 = .ok (.aload_n 0, 1) := by decide +kernel
theorem dX9_estimate_35 : decode cX9_estimate 35 = .ok (.getfield 12, 3) := by decide +kernel
theorem dX9_estimate_38 : decode cX9_estimate 38 = .ok (.getfield 72, 3) := by decide +kernel
theorem dX9_estimate_41 : decode cX9_estimate 41 = .ok (.iload_n 1, 1) := by decide +kernel
theorem dX9_estimate_42 : decode cX9_estimate 42 = .ok (.iload_n 2, 1) := by decide +kernel
theorem dX9_estimate_43 : decode cX9_estimate 43 = .ok (.iload_n 3, 1) := by decide +kernel
theorem dX9_estimate_44 : decode cX9_estimate 44 = .ok (.invokevirtual 158, 3) := by decide +kernel
theorem dX9_estimate_47 : decode cX9_estimate 47 = .ok (.ireturn, 1) := by decide +kernel
theorem dX9_estimate_48 : decode cX9_estimate 48 = .ok (.aload_n 0, 1) := by decide +kernel
theorem dX9_estimate_49 : decode cX9_estimate 49 = .ok (.getfield 12, 3) := by decide +kernel
theorem dX9_estimate_52 : decode cX9_estimate 52 = .ok (.getfield 92, 3) := by decide +kernel
theorem dX9_estimate_55 : decode cX9_estimate 55 = .ok (.invokevirtual 147, 3) := by decide +kernel
theorem dX9_estimate_58 : decode cX9_estimate 58 = .ok (.ifCond .ne 6, 3) := by decide +kernel
theorem dX9_estimate_61 : decode cX9_estimate 61 = .ok (.bipush (-6), 2) := by decide +kernel
theorem dX9_estimate_63 : decode cX9_estimate 63 = .ok (.ireturn, 1) := by decide +kernel
theorem dX9_estimate_64 : decode cX9_estimate 64 = .ok (.aload_n 0, 1) := by decide +kernel
theorem dX9_estimate_65 : decode cX9_estimate 65 = .ok (.getfield 12, 3) := by decide +kernel
theorem dX9_estimate_68 : decode cX9_estimate 68 = .ok (.getfield 92, 3) := by decide +kernel
theorem dX9_estimate_71 : decode cX9_estimate 71 = .ok (.iload_n 1, 1) := by decide +kernel
theorem dX9_estimate_72 : decode cX9_estimate 72 = .ok (.invokevirtual 96, 3) := by decide +kernel
theorem dX9_estimate_75 : decode cX9_estimate 75 = .ok (.astore 5, 2) := by decide +kernel
theorem dX9_estimate_77 : decode cX9_estimate 77 = .ok (.iload 4, 2) := by decide +kernel
theorem dX9_estimate_79 : decode cX9_estimate 79 = .ok (.tableswitch 49 0 2 #[25, 33, 41], 25) := by decide +kernel
theorem dX9_estimate_104 : decode cX9_estimate 104 = .ok (.aload 5, 2) := by decide +kernel
theorem dX9_estimate_106 : decode cX9_estimate 106 = .ok (.iload_n 2, 1) := by decide +kernel
theorem dX9_estimate_107 : decode cX9_estimate 107 = .ok (.iload_n 3, 1) := by decide +kernel
theorem dX9_estimate_108 : decode cX9_estimate 108 = .ok (.invokevirtual 162, 3) := by decide +kernel
theorem dX9_estimate_111 : decode cX9_estimate 111 = .ok (.ireturn, 1) := by decide +kernel
theorem dX9_estimate_112 : decode cX9_estimate 112 = .ok (.aload 5, 2) := by decide +kernel
theorem dX9_estimate_114 : decode cX9_estimate 114 = .ok (.iload_n 2, 1) := by decide +kernel
theorem dX9_estimate_115 : decode cX9_estimate 115 = .ok (.iload_n 3, 1) := by decide +kernel
theorem dX9_estimate_116 : decode cX9_estimate 116 = .ok (.invokevirtual 165, 3) := by decide +kernel
theorem dX9_estimate_119 : decode cX9_estimate 119 = .ok (.ireturn, 1) := by decide +kernel
theorem dX9_estimate_120 : decode cX9_estimate 120 = .ok (.aload 5, 2) := by decide +kernel
theorem dX9_estimate_122 : decode cX9_estimate 122 = .ok (.iload_n 2, 1) := by decide +kernel
theorem dX9_estimate_123 : decode cX9_estimate 123 = .ok (.iload_n 3, 1) := by decide +kernel
theorem dX9_estimate_124 : decode cX9_estimate 124 = .ok (.invokevirtual 168, 3) := by decide +kernel
theorem dX9_estimate_127 : decode cX9_estimate 127 = .ok (.ireturn, 1) := by decide +kernel
theorem dX9_estimate_128 : decode cX9_estimate 128 = .ok (.aload_n 0, 1) := by decide +kernel
theorem dX9_estimate_129 : decode cX9_estimate 129 = .ok (.getfield 12, 3) := by decide +kernel
theorem dX9_estimate_132 : decode cX9_estimate 132 = .ok (.aload 5, 2) := by decide +kernel
theorem dX9_estimate_134 : decode cX9_estimate 134 = .ok (.iload_n 2, 1) := by decide +kernel
theorem dX9_estimate_135 : decode cX9_estimate 135 = .ok (.iload_n 3, 1) := by decide +kernel
theorem dX9_estimate_136 : decode cX9_estimate 136 = .ok (.invokevirtual 162, 3) := by decide +kernel
theorem dX9_estimate_139 : decode cX9_estimate 139 = .ok (.invokevirtual 171, 3) := by decide +kernel
theorem dX9_estimate_142 : decode cX9_estimate 142 = .ok (.ireturn, 1) := by decide +kernel
theorem dX9_both_0 : decode cX9_both 0 = .ok (.iload_n 1, 1) := by decide +kernel
theorem dX9_both_1 : decode cX9_both 1 = .ok (.iload_n 2, 1) := by decide +kernel
theorem dX9_both_2 : decode cX9_both 2 = .ok (.invokestatic 154, 3) := by decide +kernel
theorem dX9_both_5 : decode cX9_both 5 = .ok (.ifCond .eq 22, 3) := by decide +kernel
theorem dX9_both_8 : decode cX9_both 8 = .ok (.iload_n 3, 1) := by decide +kernel
theorem dX9_both_9 : decode cX9_both 9 = .ok (.iload 4, 2) := by decide +kernel
theorem dX9_both_11 : decode cX9_both 11 = .ok (.invokestatic 154, 3) := by decide +kernel
theorem dX9_both_14 : decode cX9_both 14 = .ok (.ifCond .eq 13, 3) := by decide +kernel
theorem dX9_both_17 : decode cX9_both 17 = .ok (.iload 5, 2) := by decide +kernel
theorem dX9_both_19 : decode cX9_both 19 = .ok (.iconst 0, 1) := by decide +kernel
theorem dX9_both_20 : decode cX9_both 20 = .ok (.iconst 2, 1) := by decide +kernel
theorem dX9_both_21 : decode cX9_both 21 = .ok (.invokestatic 88, 3) := by decide +kernel
theorem dX9_both_24 : decode cX9_both 24 = .ok (.ifCond .ne 6, 3) := by decide +kernel
theorem dX9_both_27 : decode cX9_both 27 = .ok (.bipush (-2), 2) := by decide +kernel
theorem dX9_both_29 : decode cX9_both 29 = .ok (.ireturn, 1) := by decide +kernel
theorem dX9_both_30 : decode cX9_both 30 = .ok (.iload 5, 2) := by decide +kernel
theorem dX9_both_32 : decode cX9_both 32 = .ok (.iconst 2, 1) := by decide +kernel
theorem dX9_both_33 : decode cX9_both 33 = .ok (.if_icmp .ne 19, 3) := by decide +kernel
theorem dX9_both_36 : decode cX9_both 36 = .ok (.aload_n 0, 1) := by decide +kernel
theorem dX9_both_37 : decode cX9_both 37 = .ok (.getfield 12, 3) := by decide +kernel
theorem dX9_both_40 : decode cX9_both 40 = .ok (.getfield 72, 3) := by decide +kernel
theorem dX9_both_43 : decode cX9_both 43 = .ok (.iload_n 1, 1) := by decide +kernel
theorem dX9_both_44 : decode cX9_both 44 = .ok (.iload_n 2, 1) := by decide +kernel
theorem dX9_both_45 : decode cX9_both 45 = .ok (.iload_n 3, 1) := by decide +kernel
theorem dX9_both_46 : decode cX9_both 46 = .ok (.iload 4, 2) := by decide +kernel
theorem dX9_both_48 : decode cX9_both 48 = .ok (.invokevirtual 174, 3) := by decide +kernel
theorem dX9_both_51 : decode cX9_both 51 = .ok (.ireturn, 1) := by decide +kernel
theorem dX9_both_52 : decode cX9_both 52 = .ok (.aload_n 0, 1) := by decide +kernel
theorem dX9_both_53 : decode cX9_both 53 = .ok (.getfield 12, 3) := by decide +kernel
theorem dX9_both_56 : decode cX9_both 56 = .ok (.getfield 92, 3) := by decide +kernel
theorem dX9_both_59 : decode cX9_both 59 = .ok (.invokevirtual 147, 3) := by decide +kernel
theorem dX9_both_62 : decode cX9_both 62 = .ok (.ifCond .ne 6, 3) := by decide +kernel
theorem dX9_both_65 : decode cX9_both 65 = .ok (.bipush (-6), 2) := by decide +kernel
theorem dX9_both_67 : decode cX9_both 67 = .ok (.ireturn, 1) := by decide +kernel
theorem dX9_both_68 : decode cX9_both 68 = .ok (.aload_n 0, 1) := by decide +kernel
theorem dX9_both_69 : decode cX9_both 69 = .ok (.getfield 12, 3) := by decide +kernel
theorem dX9_both_72 : decode cX9_both 72 = .ok (.getfield 92, 3) := by decide +kernel
theorem dX9_both_75 : decode cX9_both 75 = .ok (.iload_n 1, 1) := by decide +kernel
theorem dX9_both_76 : decode cX9_both 76 = .ok (.iload_n 2, 1) := by decide +kernel
theorem dX9_both_77 : decode cX9_both 77 = .ok (.iload_n 3, 1) := by decide +kernel
theorem dX9_both_78 : decode cX9_both 78 = .ok (.iload 4, 2) := by decide +kernel
theorem dX9_both_80 : decode cX9_both 80 = .ok (.invokevirtual 178, 3) := by decide +kernel
theorem dX9_both_83 : decode cX9_both 83 = .ok (.istore 6, 2) := by decide +kernel
theorem dX9_both_85 : decode cX9_both 85 = .ok (.iload 5, 2) := by decide +kernel
theorem dX9_both_87 : decode cX9_both 87 = .ok (.ifCond .ne 8, 3) := by decide +kernel
theorem dX9_both_90 : decode cX9_both 90 = .ok (.iload 6, 2) := by decide +kernel
theorem dX9_both_92 : decode cX9_both 92 = .ok (.goto 12, 3) := by decide +kernel
theorem dX9_both_95 : decode cX9_both 95 = .ok (.aload_n 0, 1) := by decide +kernel
theorem dX9_both_96 : decode cX9_both 96 = .ok (.getfield 12, 3) := by decide +kernel
theorem dX9_both_99 : decode cX9_both 99 = .ok (.iload 6, 2) := by decide +kernel
theorem dX9_both_101 : decode cX9_both 101 = .ok (.invokevirtual 171, 3) := by decide +kernel
theorem dX9_both_104 : decode cX9_both 104 = .ok (.ireturn, 1) := by decide +kernel
theorem dX9_share_0 : decode cX9_share 0 = .ok (.iload_n 1, 1) := by decide +kernel
theorem dX9_share_1 : decode cX9_share 1 = .ok (.invokestatic 82, 3) := by decide +kernel
theorem dX9_share_4 : decode cX9_share 4 = .ok (.ifCond .eq 11, 3) := by decide +kernel
theorem dX9_share_7 : decode cX9_share 7 = .ok (.iload_n 2, 1) := by decide +kernel
theorem dX9_share_8 : decode cX9_share 8 = .ok (.iload_n 3, 1) := by decide +kernel
theorem dX9_share_9 : decode cX9_share 9 = .ok (.invokestatic 154, 3) := by decide +kernel
theorem dX9_share_12 : decode cX9_share 12 = .ok (.ifCond .ne 6, 3) := by decide +kernel
theorem dX9_share_15 : decode cX9_share 15 = .ok (.bipush (-2), 2) := by decide +kernel
theorem dX9_share_17 : decode cX9_share 17 = .ok (.ireturn, 1) := by decide +kernel
theorem dX9_share_18 : decode cX9_share 18 = .ok (.aload_n 0, 1) := by decide +kernel
theorem dX9_share_19 : decode cX9_share 19 = .ok (.getfield 12, 3) := by decide +kernel
theorem dX9_share_22 : decode cX9_share 22 = .ok (.getfield 92, 3) := by decide +kernel
theorem dX9_share_25 : decode cX9_share 25 = .ok (.getfield 121, 3) := by decide +kernel
theorem dX9_share_28 : decode cX9_share 28 = .ok (.istore 4, 2) := by decide +kernel
theorem dX9_share_30 : decode cX9_share 30 = .ok (.iload 4, 2) := by decide +kernel
theorem dX9_share_32 : decode cX9_share 32 = .ok (.ifCond .gt 6, 3) := by decide +kernel
theorem dX9_share_35 : decode cX9_share 35 = .ok (.bipush (-6), 2) := by decide +kernel
theorem dX9_share_37 : decode cX9_share 37 = .ok (.ireturn, 1) := by decide +kernel
theorem dX9_share_38 : decode cX9_share 38 = .ok (.aload_n 0, 1) := by decide +kernel
theorem dX9_share_39 : decode cX9_share 39 = .ok (.getfield 12, 3) := by decide +kernel
theorem dX9_share_42 : decode cX9_share 42 = .ok (.getfield 92, 3) := by decide +kernel
theorem dX9_share_45 : decode cX9_share 45 = .ok (.iload_n 1, 1) := by decide +kernel
theorem dX9_share_46 : decode cX9_share 46 = .ok (.invokevirtual 96, 3) := by decide +kernel
theorem dX9_share_49 : decode cX9_share 49 = .ok (.iload_n 2, 1) := by decide +kernel
theorem dX9_share_50 : decode cX9_share 50 = .ok (.iload_n 3, 1) := by decide +kernel
theorem dX9_share_51 : decode cX9_share 51 = .ok (.invokevirtual 162, 3) := by decide +kernel
theorem dX9_share_54 : decode cX9_share 54 = .ok (.i2d, 1) := by decide +kernel
theorem dX9_share_55 : decode cX9_share 55 = .ok (.iload 4, 2) := by decide +kernel
theorem dX9_share_57 : decode cX9_share 57 = .ok (.i2d, 1) := by decide +kernel
theorem dX9_share_58 : decode cX9_share 58 = .ok (.ddiv, 1) := by decide +kernel
theorem dX9_share_59 : decode cX9_share 59 = .ok (.dstore 5, 2) := by decide +kernel
theorem dX9_share_61 : decode cX9_share 61 = .ok (.dload 5, 2) := by decide +kernel
theorem dX9_share_63 : decode cX9_share 63 = .ok (.d2f, 1) := by decide +kernel
theorem dX9_share_64 : decode cX9_share 64 = .ok (.invokestatic 181, 3) := by decide +kernel
theorem dX9_share_67 : decode cX9_share 67 = .ok (.ireturn, 1) := by decide +kernel
theorem dX9_height_0 : decode cX9_height 0 = .ok (.iload_n 1, 1) := by decide +kernel
theorem dX9_height_1 : decode cX9_height 1 = .ok (.invokestatic 82, 3) := by decide +kernel
theorem dX9_height_4 : decode cX9_height 4 = .ok (.ifCond .ne 7, 3) := by decide +kernel
theorem dX9_height_7 : decode cX9_height 7 = .ok (.ldc2_w 187, 3) := by decide +kernel
theorem dX9_height_10 : decode cX9_height 10 = .ok (.lreturn, 1) := by decide +kernel
theorem dX9_height_11 : decode cX9_height 11 = .ok (.aload_n 0, 1) := by decide +kernel
theorem dX9_height_12 : decode cX9_height 12 = .ok (.getfield 12, 3) := by decide +kernel
theorem dX9_height_15 : decode cX9_height 15 = .ok (.getfield 92, 3) := by decide +kernel
theorem dX9_height_18 : decode cX9_height 18 = .ok (.iload_n 1, 1) := by decide +kernel
theorem dX9_height_19 : decode cX9_height 19 = .ok (.invokevirtual 96, 3) := by decide +kernel
theorem dX9_height_22 : decode cX9_height 22 = .ok (.astore_n 2, 1) := by decide +kernel
theorem dX9_height_23 : decode cX9_height 23 = .ok (.aload_n 2, 1) := by decide +kernel
theorem dX9_height_24 : decode cX9_height 24 = .ok (.getfield 130, 3) := by decide +kernel
theorem dX9_height_27 : decode cX9_height 27 = .ok (.ifCond .gt 5, 3) := by decide +kernel
theorem dX9_height_30 : decode cX9_height 30 = .ok (.lconst 0, 1) := by decide +kernel
theorem dX9_height_31 : decode cX9_height 31 = .ok (.lreturn, 1) := by decide +kernel
theorem dX9_height_32 : decode cX9_height 32 = .ok (.aload_n 2, 1) := by decide +kernel
theorem dX9_height_33 : decode cX9_height 33 = .ok (.invokevirtual 189, 3) := by decide +kernel
theorem dX9_height_36 : decode cX9_height 36 = .ok (.i2d, 1) := by decide +kernel
theorem dX9_height_37 : decode cX9_height 37 = .ok (.aload_n 2, 1) := by decide +kernel
theorem dX9_height_38 : decode cX9_height 38 = .ok (.getfield 130, 3) := by decide +kernel
theorem dX9_height_41 : decode cX9_height 41 = .ok (.i2d, 1) := by decide +kernel
theorem dX9_height_42 : decode cX9_height 42 = .ok (.ddiv, 1) := by decide +kernel
theorem dX9_height_43 : decode cX9_height 43 = .ok (.invokestatic 192, 3) := by decide +kernel
theorem dX9_height_46 : decode cX9_height 46 = .ok (.lreturn, 1) := by decide +kernel
theorem dX9_worst_0 : decode cX9_worst 0 = .ok (.iload_n 1, 1) := by decide +kernel
theorem dX9_worst_1 : decode cX9_worst 1 = .ok (.invokestatic 82, 3) := by decide +kernel
theorem dX9_worst_4 : decode cX9_worst 4 = .ok (.ifCond .eq 12, 3) := by decide +kernel
theorem dX9_worst_7 : decode cX9_worst 7 = .ok (.iload_n 2, 1) := by decide +kernel
theorem dX9_worst_8 : decode cX9_worst 8 = .ok (.iconst 0, 1) := by decide +kernel
theorem dX9_worst_9 : decode cX9_worst 9 = .ok (.iconst 1, 1) := by decide +kernel
theorem dX9_worst_10 : decode cX9_worst 10 = .ok (.invokestatic 88, 3) := by decide +kernel
theorem dX9_worst_13 : decode cX9_worst 13 = .ok (.ifCond .ne 6, 3) := by decide +kernel
theorem dX9_worst_16 : decode cX9_worst 16 = .ok (.bipush (-2), 2) := by decide +kernel
theorem dX9_worst_18 : decode cX9_worst 18 = .ok (.ireturn, 1) := by decide +kernel
theorem dX9_worst_19 : decode cX9_worst 19 = .ok (.aload_n 0, 1) := by decide +kernel
theorem dX9_worst_20 : decode cX9_worst 20 = .ok (.getfield 12, 3) := by decide +kernel
theorem dX9_worst_23 : decode cX9_worst 23 = .ok (.getfield 92, 3) := by decide +kernel
theorem dX9_worst_26 : decode cX9_worst 26 = .ok (.invokevirtual 147, 3) := by decide +kernel
theorem dX9_worst_29 : decode cX9_worst 29 = .ok (.ifCond .ne 6, 3) := by decide +kernel
theorem dX9_worst_32 : decode cX9_worst 32 = .ok (.bipush (-6), 2) := by decide +kernel
theorem dX9_worst_34 : decode cX9_worst 34 = .ok (.ireturn, 1) := by decide +kernel
theorem dX9_worst_35 : decode cX9_worst 35 = .ok (.aload_n 0, 1) := by decide +kernel
theorem dX9_worst_36 : decode cX9_worst 36 = .ok (.getfield 12, 3) := by decide +kernel
theorem dX9_worst_39 : decode cX9_worst 39 = .ok (.getfield 92, 3) := by decide +kernel
theorem dX9_worst_42 : decode cX9_worst 42 = .ok (.iload_n 1, 1) := by decide +kernel
theorem dX9_worst_43 : decode cX9_worst 43 = .ok (.invokevirtual 96, 3) := by decide +kernel
theorem dX9_worst_46 : decode cX9_worst 46 = .ok (.astore_n 3, 1) := by decide +kernel
theorem dX9_worst_47 : decode cX9_worst 47 = .ok (.aload_n 3, 1) := by decide +kernel
theorem dX9_worst_48 : decode cX9_worst 48 = .ok (.invokevirtual 196, 3) := by decide +kernel
theorem dX9_worst_51 : decode cX9_worst 51 = .ok (.istore 4, 2) := by decide +kernel
theorem dX9_worst_53 : decode cX9_worst 53 = .ok (.iload_n 2, 1) := by decide +kernel
theorem dX9_worst_54 : decode cX9_worst 54 = .ok (.ifCond .ne 8, 3) := by decide +kernel
theorem dX9_worst_57 : decode cX9_worst 57 = .ok (.iload 4, 2) := by decide +kernel
theorem dX9_worst_59 : decode cX9_worst 59 = .ok (.goto 9, 3) := by decide +kernel
theorem dX9_worst_62 : decode cX9_worst 62 = .ok (.aload_n 3, 1) := by decide +kernel
theorem dX9_worst_63 : decode cX9_worst 63 = .ok (.iload 4, 2) := by decide +kernel
theorem dX9_worst_65 : decode cX9_worst 65 = .ok (.invokevirtual 199, 3) := by decide +kernel
theorem dX9_worst_68 : decode cX9_worst 68 = .ok (.ireturn, 1) := by decide +kernel
theorem dX9_fewest_0 : decode cX9_fewest 0 = .ok (.iload_n 1, 1) := by decide +kernel
theorem dX9_fewest_1 : decode cX9_fewest 1 = .ok (.invokestatic 82, 3) := by decide +kernel
theorem dX9_fewest_4 : decode cX9_fewest 4 = .ok (.ifCond .eq 13, 3) := by decide +kernel
theorem dX9_fewest_7 : decode cX9_fewest 7 = .ok (.iload_n 2, 1) := by decide +kernel
theorem dX9_fewest_8 : decode cX9_fewest 8 = .ok (.iconst 0, 1) := by decide +kernel
theorem dX9_fewest_9 : decode cX9_fewest 9 = .ok (.bipush 60, 2) := by decide +kernel
theorem dX9_fewest_11 : decode cX9_fewest 11 = .ok (.invokestatic 88, 3) := by decide +kernel
theorem dX9_fewest_14 : decode cX9_fewest 14 = .ok (.ifCond .ne 6, 3) := by decide +kernel
theorem dX9_fewest_17 : decode cX9_fewest 17 = .ok (.bipush (-2), 2) := by decide +kernel
theorem dX9_fewest_19 : decode cX9_fewest 19 = .ok (.ireturn, 1) := by decide +kernel
theorem dX9_fewest_20 : decode cX9_fewest 20 = .ok (.aload_n 0, 1) := by decide +kernel
theorem dX9_fewest_21 : decode cX9_fewest 21 = .ok (.getfield 12, 3) := by decide +kernel
theorem dX9_fewest_24 : decode cX9_fewest 24 = .ok (.getfield 72, 3) := by decide +kernel
theorem dX9_fewest_27 : decode cX9_fewest 27 = .ok (.getfield 117, 3) := by decide +kernel
theorem dX9_fewest_30 : decode cX9_fewest 30 = .ok (.ifCond .ne 6, 3) := by decide +kernel
theorem dX9_fewest_33 : decode cX9_fewest 33 = .ok (.bipush (-5), 2) := by decide +kernel
theorem dX9_fewest_35 : decode cX9_fewest 35 = .ok (.ireturn, 1) := by decide +kernel
theorem dX9_fewest_36 : decode cX9_fewest 36 = .ok (.iconst 1, 1) := by decide +kernel
theorem dX9_fewest_37 : decode cX9_fewest 37 = .ok (.istore_n 3, 1) := by decide +kernel
theorem dX9_fewest_38 : decode cX9_fewest 38 = .ok (.iload_n 3, 1) := by decide +kernel
theorem dX9_fewest_39 : decode cX9_fewest 39 = .ok (.bipush 10, 2) := by decide +kernel
theorem dX9_fewest_41 : decode cX9_fewest 41 = .ok (.if_icmp .gt 53, 3) := by decide +kernel
theorem dX9_fewest_44 : decode cX9_fewest 44 = .ok (.aload_n 0, 1) := by decide +kernel
theorem dX9_fewest_45 : decode cX9_fewest 45 = .ok (.getfield 46, 3) := by decide +kernel
theorem dX9_fewest_48 : decode cX9_fewest 48 = .ok (.aload_n 0, 1) := by decide +kernel
theorem dX9_fewest_49 : decode cX9_fewest 49 = .ok (.getfield 12, 3) := by decide +kernel
theorem dX9_fewest_52 : decode cX9_fewest 52 = .ok (.getfield 72, 3) := by decide +kernel
theorem dX9_fewest_55 : decode cX9_fewest 55 = .ok (.iload_n 1, 1) := by decide +kernel
theorem dX9_fewest_56 : decode cX9_fewest 56 = .ok (.aload_n 0, 1) := by decide +kernel
theorem dX9_fewest_57 : decode cX9_fewest 57 = .ok (.getfield 12, 3) := by decide +kernel
theorem dX9_fewest_60 : decode cX9_fewest 60 = .ok (.iconst 1, 1) := by decide +kernel
theorem dX9_fewest_61 : decode cX9_fewest 61 = .ok (.invokevirtual 138, 3) := by decide +kernel
theorem dX9_fewest_64 : decode cX9_fewest 64 = .ok (.iload_n 3, 1) := by decide +kernel
theorem dX9_fewest_65 : decode cX9_fewest 65 = .ok (.invokevirtual 202, 3) := by decide +kernel
theorem dX9_fewest_68 : decode cX9_fewest 68 = .ok (.aload_n 0, 1) := by decide +kernel
theorem dX9_fewest_69 : decode cX9_fewest 69 = .ok (.getfield 46, 3) := by decide +kernel
theorem dX9_fewest_72 : decode cX9_fewest 72 = .ok (.aload_n 0, 1) := by decide +kernel
theorem dX9_fewest_73 : decode cX9_fewest 73 = .ok (.getfield 46, 3) := by decide +kernel
theorem dX9_fewest_76 : decode cX9_fewest 76 = .ok (.invokevirtual 196, 3) := by decide +kernel
theorem dX9_fewest_79 : decode cX9_fewest 79 = .ok (.invokevirtual 199, 3) := by decide +kernel
theorem dX9_fewest_82 : decode cX9_fewest 82 = .ok (.iload_n 2, 1) := by decide +kernel
theorem dX9_fewest_83 : decode cX9_fewest 83 = .ok (.if_icmp .gt 5, 3) := by decide +kernel
theorem dX9_fewest_86 : decode cX9_fewest 86 = .ok (.iload_n 3, 1) := by decide +kernel
theorem dX9_fewest_87 : decode cX9_fewest 87 = .ok (.ireturn, 1) := by decide +kernel
theorem dX9_fewest_88 : decode cX9_fewest 88 = .ok (.iinc 3 1, 3) := by decide +kernel
theorem dX9_fewest_91 : decode cX9_fewest 91 = .ok (.goto (-53), 3) := by decide +kernel
theorem dX9_fewest_94 : decode cX9_fewest 94 = .ok (.bipush (-6), 2) := by decide +kernel
theorem dX9_fewest_96 : decode cX9_fewest 96 = .ok (.ireturn, 1) := by decide +kernel
theorem dX9_put_0 : decode cX9_put 0 = .ok (.aload_n 0, 1) := by decide +kernel
theorem dX9_put_1 : decode cX9_put 1 = .ok (.getfield 30, 3) := by decide +kernel
theorem dX9_put_4 : decode cX9_put 4 = .ok (.lload_n 1, 1) := by decide +kernel
theorem dX9_put_5 : decode cX9_put 5 = .ok (.invokevirtual 206, 3) := by decide +kernel
theorem dX9_put_8 : decode cX9_put 8 = .ok (.ireturn, 1) := by decide +kernel
theorem dX9_wipe_0 : decode cX9_wipe 0 = .ok (.aload_n 0, 1) := by decide +kernel
theorem dX9_wipe_1 : decode cX9_wipe 1 = .ok (.getfield 30, 3) := by decide +kernel
theorem dX9_wipe_4 : decode cX9_wipe 4 = .ok (.invokevirtual 210, 3) := by decide +kernel
theorem dX9_wipe_7 : decode cX9_wipe 7 = .ok (.ireturn, 1) := by decide +kernel
theorem dX9_fault_0 : decode cX9_fault 0 = .ok (.aload_n 0, 1) := by decide +kernel
theorem dX9_fault_1 : decode cX9_fault 1 = .ok (.getfield 39, 3) := by decide +kernel
theorem dX9_fault_4 : decode cX9_fault 4 = .ok (.invokevirtual 213, 3) := by decide +kernel
theorem dX9_fault_7 : decode cX9_fault 7 = .ok (.ireturn, 1) := by decide +kernel
theorem dX9_carryOut_0 : decode cX9_carryOut 0 = .ok (.aload_n 0, 1) := by decide +kernel
theorem dX9_carryOut_1 : decode cX9_carryOut 1 = .ok (.getfield 39, 3) := by decide +kernel
theorem dX9_carryOut_4 : decode cX9_carryOut 4 = .ok (.invokevirtual 213, 3) := by decide +kernel
theorem dX9_carryOut_7 : decode cX9_carryOut 7 = .ok (.bipush (-6), 2) := by decide +kernel
theorem dX9_carryOut_9 : decode cX9_carryOut 9 = .ok (.if_icmp .eq 6, 3) := by decide +kernel
theorem dX9_carryOut_12 : decode cX9_carryOut 12 = .ok (.bipush (-3), 2) := by decide +kernel
theorem dX9_carryOut_14 : decode cX9_carryOut 14 = .ok (.ireturn, 1) := by decide +kernel
theorem dX9_carryOut_15 : decode cX9_carryOut 15 = .ok (.aload_n 0, 1) := by decide +kernel
theorem dX9_carryOut_16 : decode cX9_carryOut 16 = .ok (.getfield 23, 3) := by decide +kernel
theorem dX9_carryOut_19 : decode cX9_carryOut 19 = .ok (.aload_n 0, 1) := by decide +kernel
theorem dX9_carryOut_20 : decode cX9_carryOut 20 = .ok (.getfield 12, 3) := by decide +kernel
theorem dX9_carryOut_23 : decode cX9_carryOut 23 = .ok (.invokevirtual 50, 3) := by decide +kernel
theorem dX9_carryOut_26 : decode cX9_carryOut 26 = .ok (.iconst 0, 1) := by decide +kernel
theorem dX9_carryOut_27 : decode cX9_carryOut 27 = .ok (.istore_n 1, 1) := by decide +kernel
theorem dX9_carryOut_28 : decode cX9_carryOut 28 = .ok (.aload_n 0, 1) := by decide +kernel
theorem dX9_carryOut_29 : decode cX9_carryOut 29 = .ok (.getfield 39, 3) := by decide +kernel
theorem dX9_carryOut_32 : decode cX9_carryOut 32 = .ok (.invokevirtual 216, 3) := by decide +kernel
theorem dX9_carryOut_35 : decode cX9_carryOut 35 = .ok (.iload_n 1, 1) := by decide +kernel
theorem dX9_carryOut_36 : decode cX9_carryOut 36 = .ok (.bipush 80, 2) := by decide +kernel
theorem dX9_carryOut_38 : decode cX9_carryOut 38 = .ok (.if_icmp .ge 36, 3) := by decide +kernel
theorem dX9_carryOut_41 : decode cX9_carryOut 41 = .ok (.aload_n 0, 1) := by decide +kernel
theorem dX9_carryOut_42 : decode cX9_carryOut 42 = .ok (.getfield 39, 3) := by decide +kernel
theorem dX9_carryOut_45 : decode cX9_carryOut 45 = .ok (.invokevirtual 219, 3) := by decide +kernel
theorem dX9_carryOut_48 : decode cX9_carryOut 48 = .ok (.ifCond .eq 26, 3) := by decide +kernel
theorem dX9_carryOut_51 : decode cX9_carryOut 51 = .ok (.aload_n 0, 1) := by decide +kernel
theorem dX9_carryOut_52 : decode cX9_carryOut 52 = .ok (.invokevirtual 222, 3) := by decide +kernel
theorem dX9_carryOut_55 : decode cX9_carryOut 55 = .ok (.ifCond .lt 19, 3) := by decide +kernel
theorem dX9_carryOut_58 : decode cX9_carryOut 58 = .ok (.iinc 1 1, 3) := by decide +kernel
theorem dX9_carryOut_61 : decode cX9_carryOut 61 = .ok (.aload_n 0, 1) := by decide +kernel
theorem dX9_carryOut_62 : decode cX9_carryOut 62 = .ok (.getfield 39, 3) := by decide +kernel
theorem dX9_carryOut_65 : decode cX9_carryOut 65 = .ok (.bipush 59, 2) := by decide +kernel
theorem dX9_carryOut_67 : decode cX9_carryOut 67 = .ok (.invokevirtual 225, 3) := by decide +kernel
theorem dX9_carryOut_70 : decode cX9_carryOut 70 = .ok (.pop, 1) := by decide +kernel
theorem dX9_carryOut_71 : decode cX9_carryOut 71 = .ok (.goto (-36), 3) := by decide +kernel
theorem dX9_carryOut_74 : decode cX9_carryOut 74 = .ok (.aload_n 0, 1) := by decide +kernel
theorem dX9_carryOut_75 : decode cX9_carryOut 75 = .ok (.getfield 30, 3) := by decide +kernel
theorem dX9_carryOut_78 : decode cX9_carryOut 78 = .ok (.invokevirtual 210, 3) := by decide +kernel
theorem dX9_carryOut_81 : decode cX9_carryOut 81 = .ok (.pop, 1) := by decide +kernel
theorem dX9_carryOut_82 : decode cX9_carryOut 82 = .ok (.aload_n 0, 1) := by decide +kernel
theorem dX9_carryOut_83 : decode cX9_carryOut 83 = .ok (.iload_n 1, 1) := by decide +kernel
theorem dX9_carryOut_84 : decode cX9_carryOut 84 = .ok (.invokevirtual 58, 3) := by decide +kernel
theorem dX9_carryOut_87 : decode cX9_carryOut 87 = .ok (.ireturn, 1) := by decide +kernel
theorem dX9_followOrder_0 : decode cX9_followOrder 0 = .ok (.aload_n 0, 1) := by decide +kernel
theorem dX9_followOrder_1 : decode cX9_followOrder 1 = .ok (.getfield 39, 3) := by decide +kernel
theorem dX9_followOrder_4 : decode cX9_followOrder 4 = .ok (.getfield 229, 3) := by decide +kernel
theorem dX9_followOrder_7 : decode cX9_followOrder 7 = .ok (.lookupswitch 157 #[(43, 57), (45, 86), (97, 101), (98, 109), (99, 125), (112, 141)], 57) := by decide +kernel
theorem dX9_followOrder_64 : decode cX9_followOrder 64 = .ok (.aload_n 0, 1) := by decide +kernel
theorem dX9_followOrder_65 : decode cX9_followOrder 65 = .ok (.getfield 12, 3) := by decide +kernel
theorem dX9_followOrder_68 : decode cX9_followOrder 68 = .ok (.aload_n 0, 1) := by decide +kernel
theorem dX9_followOrder_69 : decode cX9_followOrder 69 = .ok (.getfield 39, 3) := by decide +kernel
theorem dX9_followOrder_72 : decode cX9_followOrder 72 = .ok (.getfield 233, 3) := by decide +kernel
theorem dX9_followOrder_75 : decode cX9_followOrder 75 = .ok (.aload_n 0, 1) := by decide +kernel
theorem dX9_followOrder_76 : decode cX9_followOrder 76 = .ok (.getfield 39, 3) := by decide +kernel
theorem dX9_followOrder_79 : decode cX9_followOrder 79 = .ok (.getfield 236, 3) := by decide +kernel
theorem dX9_followOrder_82 : decode cX9_followOrder 82 = .ok (.aload_n 0, 1) := by decide +kernel
theorem dX9_followOrder_83 : decode cX9_followOrder 83 = .ok (.getfield 39, 3) := by decide +kernel
theorem dX9_followOrder_86 : decode cX9_followOrder 86 = .ok (.getfield 239, 3) := by decide +kernel
theorem dX9_followOrder_89 : decode cX9_followOrder 89 = .ok (.invokevirtual 242, 3) := by decide +kernel
theorem dX9_followOrder_92 : decode cX9_followOrder 92 = .ok (.ireturn, 1) := by decide +kernel
theorem dX9_followOrder_93 : decode cX9_followOrder 93 = .ok (.aload_n 0, 1) := by decide +kernel
theorem dX9_followOrder_94 : decode cX9_followOrder 94 = .ok (.getfield 12, 3) := by decide +kernel
theorem dX9_followOrder_97 : decode cX9_followOrder 97 = .ok (.aload_n 0, 1) := by decide +kernel
theorem dX9_followOrder_98 : decode cX9_followOrder 98 = .ok (.getfield 39, 3) := by decide +kernel
theorem dX9_followOrder_101 : decode cX9_followOrder 101 = .ok (.getfield 233, 3) := by decide +kernel
theorem dX9_followOrder_104 : decode cX9_followOrder 104 = .ok (.invokevirtual 65, 3) := by decide +kernel
theorem dX9_followOrder_107 : decode cX9_followOrder 107 = .ok (.ireturn, 1) := by decide +kernel
theorem dX9_followOrder_108 : decode cX9_followOrder 108 = .ok (.aload_n 0, 1) := by decide +kernel
theorem dX9_followOrder_109 : decode cX9_followOrder 109 = .ok (.getfield 12, 3) := by decide +kernel
theorem dX9_followOrder_112 : decode cX9_followOrder 112 = .ok (.invokevirtual 68, 3) := by decide +kernel
theorem dX9_followOrder_115 : decode cX9_followOrder 115 = .ok (.ireturn, 1) := by decide +kernel
theorem dX9_followOrder_116 : decode cX9_followOrder 116 = .ok (.aload_n 0, 1) := by decide +kernel
theorem dX9_followOrder_117 : decode cX9_followOrder 117 = .ok (.getfield 12, 3) := by decide +kernel
theorem dX9_followOrder_120 : decode cX9_followOrder 120 = .ok (.iconst 0, 1) := by decide +kernel
theorem dX9_followOrder_121 : decode cX9_followOrder 121 = .ok (.aload_n 0, 1) := by decide +kernel
theorem dX9_followOrder_122 : decode cX9_followOrder 122 = .ok (.getfield 39, 3) := by decide +kernel
theorem dX9_followOrder_125 : decode cX9_followOrder 125 = .ok (.getfield 233, 3) := by decide +kernel
theorem dX9_followOrder_128 : decode cX9_followOrder 128 = .ok (.invokevirtual 54, 3) := by decide +kernel
theorem dX9_followOrder_131 : decode cX9_followOrder 131 = .ok (.ireturn, 1) := by decide +kernel
theorem dX9_followOrder_132 : decode cX9_followOrder 132 = .ok (.aload_n 0, 1) := by decide +kernel
theorem dX9_followOrder_133 : decode cX9_followOrder 133 = .ok (.getfield 12, 3) := by decide +kernel
theorem dX9_followOrder_136 : decode cX9_followOrder 136 = .ok (.iconst 1, 1) := by decide +kernel
theorem dX9_followOrder_137 : decode cX9_followOrder 137 = .ok (.aload_n 0, 1) := by decide +kernel
theorem dX9_followOrder_138 : decode cX9_followOrder 138 = .ok (.getfield 39, 3) := by decide +kernel
theorem dX9_followOrder_141 : decode cX9_followOrder 141 = .ok (.getfield 233, 3) := by decide +kernel
theorem dX9_followOrder_144 : decode cX9_followOrder 144 = .ok (.invokevirtual 54, 3) := by decide +kernel
theorem dX9_followOrder_147 : decode cX9_followOrder 147 = .ok (.ireturn, 1) := by decide +kernel
theorem dX9_followOrder_148 : decode cX9_followOrder 148 = .ok (.aload_n 0, 1) := by decide +kernel
theorem dX9_followOrder_149 : decode cX9_followOrder 149 = .ok (.getfield 12, 3) := by decide +kernel
theorem dX9_followOrder_152 : decode cX9_followOrder 152 = .ok (.iconst 2, 1) := by decide +kernel
theorem dX9_followOrder_153 : decode cX9_followOrder 153 = .ok (.aload_n 0, 1) := by decide +kernel
theorem dX9_followOrder_154 : decode cX9_followOrder 154 = .ok (.getfield 39, 3) := by decide +kernel
theorem dX9_followOrder_157 : decode cX9_followOrder 157 = .ok (.getfield 233, 3) := by decide +kernel
theorem dX9_followOrder_160 : decode cX9_followOrder 160 = .ok (.invokevirtual 54, 3) := by decide +kernel
theorem dX9_followOrder_163 : decode cX9_followOrder 163 = .ok (.ireturn, 1) := by decide +kernel
theorem dX9_followOrder_164 : decode cX9_followOrder 164 = .ok (.bipush (-3), 2) := by decide +kernel
theorem dX9_followOrder_166 : decode cX9_followOrder 166 = .ok (.ireturn, 1) := by decide +kernel
theorem dX9_undo_0 : decode cX9_undo 0 = .ok (.aload_n 0, 1) := by decide +kernel
theorem dX9_undo_1 : decode cX9_undo 1 = .ok (.getfield 23, 3) := by decide +kernel
theorem dX9_undo_4 : decode cX9_undo 4 = .ok (.getfield 144, 3) := by decide +kernel
theorem dX9_undo_7 : decode cX9_undo 7 = .ok (.ifCond .ne 6, 3) := by decide +kernel
theorem dX9_undo_10 : decode cX9_undo 10 = .ok (.bipush (-5), 2) := by decide +kernel
theorem dX9_undo_12 : decode cX9_undo 12 = .ok (.ireturn, 1) := by decide +kernel
theorem dX9_undo_13 : decode cX9_undo 13 = .ok (.aload_n 0, 1) := by decide +kernel
theorem dX9_undo_14 : decode cX9_undo 14 = .ok (.getfield 23, 3) := by decide +kernel
theorem dX9_undo_17 : decode cX9_undo 17 = .ok (.aload_n 0, 1) := by decide +kernel
theorem dX9_undo_18 : decode cX9_undo 18 = .ok (.getfield 12, 3) := by decide +kernel
theorem dX9_undo_21 : decode cX9_undo 21 = .ok (.invokevirtual 245, 3) := by decide +kernel
theorem dX9_undo_24 : decode cX9_undo 24 = .ok (.aload_n 0, 1) := by decide +kernel
theorem dX9_undo_25 : decode cX9_undo 25 = .ok (.getfield 23, 3) := by decide +kernel
theorem dX9_undo_28 : decode cX9_undo 28 = .ok (.getfield 144, 3) := by decide +kernel
theorem dX9_undo_31 : decode cX9_undo 31 = .ok (.ireturn, 1) := by decide +kernel
theorem dX9_save_0 : decode cX9_save 0 = .ok (.iload_n 1, 1) := by decide +kernel
theorem dX9_save_1 : decode cX9_save 1 = .ok (.ifCond .lt 12, 3) := by decide +kernel
theorem dX9_save_4 : decode cX9_save 4 = .ok (.iload_n 1, 1) := by decide +kernel
theorem dX9_save_5 : decode cX9_save 5 = .ok (.aload_n 0, 1) := by decide +kernel
theorem dX9_save_6 : decode cX9_save 6 = .ok (.getfield 16, 3) := by decide +kernel
theorem dX9_save_9 : decode cX9_save 9 = .ok (.arraylength, 1) := by decide +kernel
theorem dX9_save_10 : decode cX9_save 10 = .ok (.if_icmp .lt 6, 3) := by decide +kernel
theorem dX9_save_13 : decode cX9_save 13 = .ok (.bipush (-2), 2) := by decide +kernel
theorem dX9_save_15 : decode cX9_save 15 = .ok (.ireturn, 1) := by decide +kernel
theorem dX9_save_16 : decode cX9_save 16 = .ok (.aload_n 0, 1) := by decide +kernel
theorem dX9_save_17 : decode cX9_save 17 = .ok (.getfield 16, 3) := by decide +kernel
theorem dX9_save_20 : decode cX9_save 20 = .ok (.iload_n 1, 1) := by decide +kernel
theorem dX9_save_21 : decode cX9_save 21 = .ok (.aaload, 1) := by decide +kernel
theorem dX9_save_22 : decode cX9_save 22 = .ok (.astore_n 2, 1) := by decide +kernel
theorem dX9_save_23 : decode cX9_save 23 = .ok (.aload_n 2, 1) := by decide +kernel
theorem dX9_save_24 : decode cX9_save 24 = .ok (.ifnonnull 18, 3) := by decide +kernel
theorem dX9_save_27 : decode cX9_save 27 = .ok (.new 9, 3) := by decide +kernel
theorem dX9_save_30 : decode cX9_save 30 = .ok (.dup, 1) := by decide +kernel
theorem dX9_save_31 : decode cX9_save 31 = .ok (.invokespecial 11, 3) := by decide +kernel
theorem dX9_save_34 : decode cX9_save 34 = .ok (.astore_n 2, 1) := by decide +kernel
theorem dX9_save_35 : decode cX9_save 35 = .ok (.aload_n 0, 1) := by decide +kernel
theorem dX9_save_36 : decode cX9_save 36 = .ok (.getfield 16, 3) := by decide +kernel
theorem dX9_save_39 : decode cX9_save 39 = .ok (.iload_n 1, 1) := by decide +kernel
theorem dX9_save_40 : decode cX9_save 40 = .ok (.aload_n 2, 1) := by decide +kernel
theorem dX9_save_41 : decode cX9_save 41 = .ok (.aastore, 1) := by decide +kernel
theorem dX9_save_42 : decode cX9_save 42 = .ok (.aload_n 2, 1) := by decide +kernel
theorem dX9_save_43 : decode cX9_save 43 = .ok (.aload_n 0, 1) := by decide +kernel
theorem dX9_save_44 : decode cX9_save 44 = .ok (.getfield 12, 3) := by decide +kernel
theorem dX9_save_47 : decode cX9_save 47 = .ok (.invokevirtual 248, 3) := by decide +kernel
theorem dX9_save_50 : decode cX9_save 50 = .ok (.aload_n 0, 1) := by decide +kernel
theorem dX9_save_51 : decode cX9_save 51 = .ok (.getfield 12, 3) := by decide +kernel
theorem dX9_save_54 : decode cX9_save 54 = .ok (.getfield 72, 3) := by decide +kernel
theorem dX9_save_57 : decode cX9_save 57 = .ok (.getfield 117, 3) := by decide +kernel
theorem dX9_save_60 : decode cX9_save 60 = .ok (.ireturn, 1) := by decide +kernel
theorem dX9_restore_0 : decode cX9_restore 0 = .ok (.iload_n 1, 1) := by decide +kernel
theorem dX9_restore_1 : decode cX9_restore 1 = .ok (.ifCond .lt 12, 3) := by decide +kernel
theorem dX9_restore_4 : decode cX9_restore 4 = .ok (.iload_n 1, 1) := by decide +kernel
theorem dX9_restore_5 : decode cX9_restore 5 = .ok (.aload_n 0, 1) := by decide +kernel
theorem dX9_restore_6 : decode cX9_restore 6 = .ok (.getfield 16, 3) := by decide +kernel
theorem dX9_restore_9 : decode cX9_restore 9 = .ok (.arraylength, 1) := by decide +kernel
theorem dX9_restore_10 : decode cX9_restore 10 = .ok (.if_icmp .lt 6, 3) := by decide +kernel
theorem dX9_restore_13 : decode cX9_restore 13 = .ok (.bipush (-2), 2) := by decide +kernel
theorem dX9_restore_15 : decode cX9_restore 15 = .ok (.ireturn, 1) := by decide +kernel
theorem dX9_restore_16 : decode cX9_restore 16 = .ok (.aload_n 0, 1) := by decide +kernel
theorem dX9_restore_17 : decode cX9_restore 17 = .ok (.getfield 16, 3) := by decide +kernel
theorem dX9_restore_20 : decode cX9_restore 20 = .ok (.iload_n 1, 1) := by decide +kernel
theorem dX9_restore_21 : decode cX9_restore 21 = .ok (.aaload, 1) := by decide +kernel
theorem dX9_restore_22 : decode cX9_restore 22 = .ok (.astore_n 2, 1) := by decide +kernel
theorem dX9_restore_23 : decode cX9_restore 23 = .ok (.aload_n 2, 1) := by decide +kernel
theorem dX9_restore_24 : decode cX9_restore 24 = .ok (.ifnonnull 6, 3) := by decide +kernel
theorem dX9_restore_27 : decode cX9_restore 27 = .ok (.bipush (-5), 2) := by decide +kernel
theorem dX9_restore_29 : decode cX9_restore 29 = .ok (.ireturn, 1) := by decide +kernel
theorem dX9_restore_30 : decode cX9_restore 30 = .ok (.aload_n 0, 1) := by decide +kernel
theorem dX9_restore_31 : decode cX9_restore 31 = .ok (.getfield 23, 3) := by decide +kernel
theorem dX9_restore_34 : decode cX9_restore 34 = .ok (.aload_n 0, 1) := by decide +kernel
theorem dX9_restore_35 : decode cX9_restore 35 = .ok (.getfield 12, 3) := by decide +kernel
theorem dX9_restore_38 : decode cX9_restore 38 = .ok (.invokevirtual 50, 3) := by decide +kernel
theorem dX9_restore_41 : decode cX9_restore 41 = .ok (.aload_n 0, 1) := by decide +kernel
theorem dX9_restore_42 : decode cX9_restore 42 = .ok (.getfield 12, 3) := by decide +kernel
theorem dX9_restore_45 : decode cX9_restore 45 = .ok (.aload_n 2, 1) := by decide +kernel
theorem dX9_restore_46 : decode cX9_restore 46 = .ok (.invokevirtual 248, 3) := by decide +kernel
theorem dX9_restore_49 : decode cX9_restore 49 = .ok (.aload_n 0, 1) := by decide +kernel
theorem dX9_restore_50 : decode cX9_restore 50 = .ok (.aload_n 0, 1) := by decide +kernel
theorem dX9_restore_51 : decode cX9_restore 51 = .ok (.getfield 12, 3) := by decide +kernel
theorem dX9_restore_54 : decode cX9_restore 54 = .ok (.getfield 72, 3) := by decide +kernel
theorem dX9_restore_57 : decode cX9_restore 57 = .ok (.getfield 117, 3) := by decide +kernel
theorem dX9_restore_60 : decode cX9_restore 60 = .ok (.invokevirtual 58, 3) := by decide +kernel
theorem dX9_restore_63 : decode cX9_restore 63 = .ok (.ireturn, 1) := by decide +kernel
theorem dX9_recorded_0 : decode cX9_recorded 0 = .ok (.iload_n 1, 1) := by decide +kernel
theorem dX9_recorded_1 : decode cX9_recorded 1 = .ok (.ifCond .lt 10, 3) := by decide +kernel
theorem dX9_recorded_4 : decode cX9_recorded 4 = .ok (.aload_n 0, 1) := by decide +kernel
theorem dX9_recorded_5 : decode cX9_recorded 5 = .ok (.getfield 23, 3) := by decide +kernel
theorem dX9_recorded_8 : decode cX9_recorded 8 = .ok (.invokevirtual 251, 3) := by decide +kernel
theorem dX9_recorded_11 : decode cX9_recorded 11 = .ok (.iload_n 1, 1) := by decide +kernel
theorem dX9_recorded_12 : decode cX9_recorded 12 = .ok (.ireturn, 1) := by decide +kernel
theorem dX9_isBetween_0 : decode cX9_isBetween 0 = .ok (.iload_n 1, 1) := by decide +kernel
theorem dX9_isBetween_1 : decode cX9_isBetween 1 = .ok (.iload_n 0, 1) := by decide +kernel
theorem dX9_isBetween_2 : decode cX9_isBetween 2 = .ok (.if_icmp .gt 12, 3) := by decide +kernel
theorem dX9_isBetween_5 : decode cX9_isBetween 5 = .ok (.iload_n 0, 1) := by decide +kernel
theorem dX9_isBetween_6 : decode cX9_isBetween 6 = .ok (.iload_n 2, 1) := by decide +kernel
theorem dX9_isBetween_7 : decode cX9_isBetween 7 = .ok (.if_icmp .gt 7, 3) := by decide +kernel
theorem dX9_isBetween_10 : decode cX9_isBetween 10 = .ok (.iconst 1, 1) := by decide +kernel
theorem dX9_isBetween_11 : decode cX9_isBetween 11 = .ok (.goto 4, 3) := by decide +kernel
theorem dX9_isBetween_14 : decode cX9_isBetween 14 = .ok (.iconst 0, 1) := by decide +kernel
theorem dX9_isBetween_15 : decode cX9_isBetween 15 = .ok (.ireturn, 1) := by decide +kernel
theorem dX9_isColumn_0 : decode cX9_isColumn 0 = .ok (.iload_n 0, 1) := by decide +kernel
theorem dX9_isColumn_1 : decode cX9_isColumn 1 = .ok (.ifCond .eq 8, 3) := by decide +kernel
theorem dX9_isColumn_4 : decode cX9_isColumn 4 = .ok (.iload_n 0, 1) := by decide +kernel
theorem dX9_isColumn_5 : decode cX9_isColumn 5 = .ok (.iconst 1, 1) := by decide +kernel
theorem dX9_isColumn_6 : decode cX9_isColumn 6 = .ok (.if_icmp .ne 7, 3) := by decide +kernel
theorem dX9_isColumn_9 : decode cX9_isColumn 9 = .ok (.iconst 1, 1) := by decide +kernel
theorem dX9_isColumn_10 : decode cX9_isColumn 10 = .ok (.goto 4, 3) := by decide +kernel
theorem dX9_isColumn_13 : decode cX9_isColumn 13 = .ok (.iconst 0, 1) := by decide +kernel
theorem dX9_isColumn_14 : decode cX9_isColumn 14 = .ok (.ireturn, 1) := by decide +kernel
theorem dX9_isValue_0 : decode cX9_isValue 0 = .ok (.iload_n 0, 1) := by decide +kernel
theorem dX9_isValue_1 : decode cX9_isValue 1 = .ok (.iconst 0, 1) := by decide +kernel
theorem dX9_isValue_2 : decode cX9_isValue 2 = .ok (.bipush 99, 2) := by decide +kernel
theorem dX9_isValue_4 : decode cX9_isValue 4 = .ok (.invokestatic 88, 3) := by decide +kernel
theorem dX9_isValue_7 : decode cX9_isValue 7 = .ok (.ireturn, 1) := by decide +kernel
theorem dX9_areBounds_0 : decode cX9_areBounds 0 = .ok (.iload_n 0, 1) := by decide +kernel
theorem dX9_areBounds_1 : decode cX9_areBounds 1 = .ok (.invokestatic 254, 3) := by decide +kernel
theorem dX9_areBounds_4 : decode cX9_areBounds 4 = .ok (.ifCond .eq 19, 3) := by decide +kernel
theorem dX9_areBounds_7 : decode cX9_areBounds 7 = .ok (.iload_n 1, 1) := by decide +kernel
theorem dX9_areBounds_8 : decode cX9_areBounds 8 = .ok (.invokestatic 254, 3) := by decide +kernel
theorem dX9_areBounds_11 : decode cX9_areBounds 11 = .ok (.ifCond .eq 12, 3) := by decide +kernel
theorem dX9_areBounds_14 : decode cX9_areBounds 14 = .ok (.iload_n 0, 1) := by decide +kernel
theorem dX9_areBounds_15 : decode cX9_areBounds 15 = .ok (.iload_n 1, 1) := by decide +kernel
theorem dX9_areBounds_16 : decode cX9_areBounds 16 = .ok (.if_icmp .gt 7, 3) := by decide +kernel
theorem dX9_areBounds_19 : decode cX9_areBounds 19 = .ok (.iconst 1, 1) := by decide +kernel
theorem dX9_areBounds_20 : decode cX9_areBounds 20 = .ok (.goto 4, 3) := by decide +kernel
theorem dX9_areBounds_23 : decode cX9_areBounds 23 = .ok (.iconst 0, 1) := by decide +kernel
theorem dX9_areBounds_24 : decode cX9_areBounds 24 = .ok (.ireturn, 1) := by decide +kernel
theorem dX9_copyNumbers_0 : decode cX9_copyNumbers 0 = .ok (.iconst 0, 1) := by decide +kernel
theorem dX9_copyNumbers_1 : decode cX9_copyNumbers 1 = .ok (.istore_n 2, 1) := by decide +kernel
theorem dX9_copyNumbers_2 : decode cX9_copyNumbers 2 = .ok (.iload_n 2, 1) := by decide +kernel
theorem dX9_copyNumbers_3 : decode cX9_copyNumbers 3 = .ok (.aload_n 0, 1) := by decide +kernel
theorem dX9_copyNumbers_4 : decode cX9_copyNumbers 4 = .ok (.arraylength, 1) := by decide +kernel
theorem dX9_copyNumbers_5 : decode cX9_copyNumbers 5 = .ok (.if_icmp .ge 21, 3) := by decide +kernel
theorem dX9_copyNumbers_8 : decode cX9_copyNumbers 8 = .ok (.iload_n 2, 1) := by decide +kernel
theorem dX9_copyNumbers_9 : decode cX9_copyNumbers 9 = .ok (.aload_n 1, 1) := by decide +kernel
theorem dX9_copyNumbers_10 : decode cX9_copyNumbers 10 = .ok (.arraylength, 1) := by decide +kernel
theorem dX9_copyNumbers_11 : decode cX9_copyNumbers 11 = .ok (.if_icmp .ge 15, 3) := by decide +kernel
theorem dX9_copyNumbers_14 : decode cX9_copyNumbers 14 = .ok (.aload_n 1, 1) := by decide +kernel
theorem dX9_copyNumbers_15 : decode cX9_copyNumbers 15 = .ok (.iload_n 2, 1) := by decide +kernel
theorem dX9_copyNumbers_16 : decode cX9_copyNumbers 16 = .ok (.aload_n 0, 1) := by decide +kernel
theorem dX9_copyNumbers_17 : decode cX9_copyNumbers 17 = .ok (.iload_n 2, 1) := by decide +kernel
theorem dX9_copyNumbers_18 : decode cX9_copyNumbers 18 = .ok (.iaload, 1) := by decide +kernel
theorem dX9_copyNumbers_19 : decode cX9_copyNumbers 19 = .ok (.iastore, 1) := by decide +kernel
theorem dX9_copyNumbers_20 : decode cX9_copyNumbers 20 = .ok (.iinc 2 1, 3) := by decide +kernel
theorem dX9_copyNumbers_23 : decode cX9_copyNumbers 23 = .ok (.goto (-21), 3) := by decide +kernel
theorem dX9_copyNumbers_26 : decode cX9_copyNumbers 26 = .ok (.return_, 1) := by decide +kernel
theorem dX10_init_0 : decode cX10_init 0 = .ok (.aload_n 0, 1) := by decide +kernel
theorem dX10_init_1 : decode cX10_init 1 = .ok (.invokespecial 1, 3) := by decide +kernel
theorem dX10_init_4 : decode cX10_init 4 = .ok (.aload_n 0, 1) := by decide +kernel
theorem dX10_init_5 : decode cX10_init 5 = .ok (.sipush 455, 3) := by decide +kernel
theorem dX10_init_8 : decode cX10_init 8 = .ok (.newarray .int, 2) := by decide +kernel
theorem dX10_init_10 : decode cX10_init 10 = .ok (.putfield 7, 3) := by decide +kernel
theorem dX10_init_13 : decode cX10_init 13 = .ok (.aload_n 0, 1) := by decide +kernel
theorem dX10_init_14 : decode cX10_init 14 = .ok (.sipush 455, 3) := by decide +kernel
theorem dX10_init_17 : decode cX10_init 17 = .ok (.newarray .int, 2) := by decide +kernel
theorem dX10_init_19 : decode cX10_init 19 = .ok (.putfield 13, 3) := by decide +kernel
theorem dX10_init_22 : decode cX10_init 22 = .ok (.aload_n 0, 1) := by decide +kernel
theorem dX10_init_23 : decode cX10_init 23 = .ok (.sipush 2730, 3) := by decide +kernel
theorem dX10_init_26 : decode cX10_init 26 = .ok (.newarray .int, 2) := by decide +kernel
theorem dX10_init_28 : decode cX10_init 28 = .ok (.putfield 16, 3) := by decide +kernel
theorem dX10_init_31 : decode cX10_init 31 = .ok (.aload_n 0, 1) := by decide +kernel
theorem dX10_init_32 : decode cX10_init 32 = .ok (.sipush 910, 3) := by decide +kernel
theorem dX10_init_35 : decode cX10_init 35 = .ok (.newarray .int, 2) := by decide +kernel
theorem dX10_init_37 : decode cX10_init 37 = .ok (.putfield 19, 3) := by decide +kernel
theorem dX10_init_40 : decode cX10_init 40 = .ok (.aload_n 0, 1) := by decide +kernel
theorem dX10_init_41 : decode cX10_init 41 = .ok (.iconst 2, 1) := by decide +kernel
theorem dX10_init_42 : decode cX10_init 42 = .ok (.newarray .boolean, 2) := by decide +kernel
theorem dX10_init_44 : decode cX10_init 44 = .ok (.putfield 22, 3) := by decide +kernel
theorem dX10_init_47 : decode cX10_init 47 = .ok (.aload_n 0, 1) := by decide +kernel
theorem dX10_init_48 : decode cX10_init 48 = .ok (.bipush 80, 2) := by decide +kernel
theorem dX10_init_50 : decode cX10_init 50 = .ok (.newarray .int, 2) := by decide +kernel
theorem dX10_init_52 : decode cX10_init 52 = .ok (.putfield 26, 3) := by decide +kernel
theorem dX10_init_55 : decode cX10_init 55 = .ok (.aload_n 0, 1) := by decide +kernel
theorem dX10_init_56 : decode cX10_init 56 = .ok (.sipush 164, 3) := by decide +kernel
theorem dX10_init_59 : decode cX10_init 59 = .ok (.newarray .int, 2) := by decide +kernel
theorem dX10_init_61 : decode cX10_init 61 = .ok (.putfield 29, 3) := by decide +kernel
theorem dX10_init_64 : decode cX10_init 64 = .ok (.aload_n 0, 1) := by decide +kernel
theorem dX10_init_65 : decode cX10_init 65 = .ok (.bipush 100, 2) := by decide +kernel
theorem dX10_init_67 : decode cX10_init 67 = .ok (.newarray .int, 2) := by decide +kernel
theorem dX10_init_69 : decode cX10_init 69 = .ok (.putfield 32, 3) := by decide +kernel
theorem dX10_init_72 : decode cX10_init 72 = .ok (.aload_n 0, 1) := by decide +kernel
theorem dX10_init_73 : decode cX10_init 73 = .ok (.getfield 7, 3) := by decide +kernel
theorem dX10_init_76 : decode cX10_init 76 = .ok (.iconst 4, 1) := by decide +kernel
theorem dX10_init_77 : decode cX10_init 77 = .ok (.iconst 4, 1) := by decide +kernel
theorem dX10_init_78 : decode cX10_init 78 = .ok (.iastore, 1) := by decide +kernel
theorem dX10_init_79 : decode cX10_init 79 = .ok (.aload_n 0, 1) := by decide +kernel
theorem dX10_init_80 : decode cX10_init 80 = .ok (.getfield 7, 3) := by decide +kernel
theorem dX10_init_83 : decode cX10_init 83 = .ok (.iconst 5, 1) := by decide +kernel
theorem dX10_init_84 : decode cX10_init 84 = .ok (.iconst 2, 1) := by decide +kernel
theorem dX10_init_85 : decode cX10_init 85 = .ok (.iastore, 1) := by decide +kernel
theorem dX10_init_86 : decode cX10_init 86 = .ok (.aload_n 0, 1) := by decide +kernel
theorem dX10_init_87 : decode cX10_init 87 = .ok (.getfield 7, 3) := by decide +kernel
theorem dX10_init_90 : decode cX10_init 90 = .ok (.bipush 6, 2) := by decide +kernel
theorem dX10_init_92 : decode cX10_init 92 = .ok (.iconst 2, 1) := by decide +kernel
theorem dX10_init_93 : decode cX10_init 93 = .ok (.iastore, 1) := by decide +kernel
theorem dX10_init_94 : decode cX10_init 94 = .ok (.aload_n 0, 1) := by decide +kernel
theorem dX10_init_95 : decode cX10_init 95 = .ok (.getfield 7, 3) := by decide +kernel
theorem dX10_init_98 : decode cX10_init 98 = .ok (.bipush 7, 2) := by decide +kernel
theorem dX10_init_100 : decode cX10_init 100 = .ok (.bipush 20, 2) := by decide +kernel
theorem dX10_init_102 : decode cX10_init 102 = .ok (.iastore, 1) := by decide +kernel
theorem dX10_init_103 : decode cX10_init 103 = .ok (.return_, 1) := by decide +kernel
theorem dX10_in_0 : decode cX10_in 0 = .ok (.iload_n 0, 1) := by decide +kernel
theorem dX10_in_1 : decode cX10_in 1 = .ok (.iload_n 1, 1) := by decide +kernel
theorem dX10_in_2 : decode cX10_in 2 = .ok (.if_icmp .lt 12, 3) := by decide +kernel
theorem dX10_in_5 : decode cX10_in 5 = .ok (.iload_n 0, 1) := by decide +kernel
theorem dX10_in_6 : decode cX10_in 6 = .ok (.iload_n 2, 1) := by decide +kernel
theorem dX10_in_7 : decode cX10_in 7 = .ok (.if_icmp .gt 7, 3) := by decide +kernel
theorem dX10_in_10 : decode cX10_in 10 = .ok (.iconst 1, 1) := by decide +kernel
theorem dX10_in_11 : decode cX10_in 11 = .ok (.goto 4, 3) := by decide +kernel
theorem dX10_in_14 : decode cX10_in 14 = .ok (.iconst 0, 1) := by decide +kernel
theorem dX10_in_15 : decode cX10_in 15 = .ok (.ireturn, 1) := by decide +kernel
theorem dX10_isValue_0 : decode cX10_isValue 0 = .ok (.iload_n 0, 1) := by decide +kernel
theorem dX10_isValue_1 : decode cX10_isValue 1 = .ok (.iconst 0, 1) := by decide +kernel
theorem dX10_isValue_2 : decode cX10_isValue 2 = .ok (.bipush 99, 2) := by decide +kernel
theorem dX10_isValue_4 : decode cX10_isValue 4 = .ok (.invokestatic 35, 3) := by decide +kernel
theorem dX10_isValue_7 : decode cX10_isValue 7 = .ok (.ireturn, 1) := by decide +kernel
theorem dX10_isColumn_0 : decode cX10_isColumn 0 = .ok (.iload_n 0, 1) := by decide +kernel
theorem dX10_isColumn_1 : decode cX10_isColumn 1 = .ok (.iconst 0, 1) := by decide +kernel
theorem dX10_isColumn_2 : decode cX10_isColumn 2 = .ok (.iconst 1, 1) := by decide +kernel
theorem dX10_isColumn_3 : decode cX10_isColumn 3 = .ok (.invokestatic 35, 3) := by decide +kernel
theorem dX10_isColumn_6 : decode cX10_isColumn 6 = .ok (.ireturn, 1) := by decide +kernel
theorem dX10_lays_0 : decode cX10_lays 0 = .ok (.iconst 0, 1) := by decide +kernel
theorem dX10_lays_1 : decode cX10_lays 1 = .ok (.istore 4, 2) := by decide +kernel
theorem dX10_lays_3 : decode cX10_lays 3 = .ok (.iload 4, 2) := by decide +kernel
theorem dX10_lays_5 : decode cX10_lays 5 = .ok (.sipush 455, 3) := by decide +kernel
theorem dX10_lays_8 : decode cX10_lays 8 = .ok (.if_icmp .ge 21, 3) := by decide +kernel
theorem dX10_lays_11 : decode cX10_lays 11 = .ok (.aload_n 2, 1) := by decide +kernel
theorem dX10_lays_12 : decode cX10_lays 12 = .ok (.iload_n 3, 1) := by decide +kernel
theorem dX10_lays_13 : decode cX10_lays 13 = .ok (.iload 4, 2) := by decide +kernel
theorem dX10_lays_15 : decode cX10_lays 15 = .ok (.iadd, 1) := by decide +kernel
theorem dX10_lays_16 : decode cX10_lays 16 = .ok (.aload_n 0, 1) := by decide +kernel
theorem dX10_lays_17 : decode cX10_lays 17 = .ok (.iload_n 1, 1) := by decide +kernel
theorem dX10_lays_18 : decode cX10_lays 18 = .ok (.iload 4, 2) := by decide +kernel
theorem dX10_lays_20 : decode cX10_lays 20 = .ok (.iadd, 1) := by decide +kernel
theorem dX10_lays_21 : decode cX10_lays 21 = .ok (.iaload, 1) := by decide +kernel
theorem dX10_lays_22 : decode cX10_lays 22 = .ok (.iastore, 1) := by decide +kernel
theorem dX10_lays_23 : decode cX10_lays 23 = .ok (.iinc 4 1, 3) := by decide +kernel
theorem dX10_lays_26 : decode cX10_lays 26 = .ok (.goto (-23), 3) := by decide +kernel
theorem dX10_lays_29 : decode cX10_lays 29 = .ok (.return_, 1) := by decide +kernel
theorem dX10_records_0 : decode cX10_records 0 = .ok (.aload_n 0, 1) := by decide +kernel
theorem dX10_records_1 : decode cX10_records 1 = .ok (.getfield 39, 3) := by decide +kernel
theorem dX10_records_4 : decode cX10_records 4 = .ok (.bipush 6, 2) := by decide +kernel
theorem dX10_records_6 : decode cX10_records 6 = .ok (.if_icmp .ne 44, 3) := by decide +kernel
theorem dX10_records_9 : decode cX10_records 9 = .ok (.iconst 0, 1) := by decide +kernel
theorem dX10_records_10 : decode cX10_records 10 = .ok (.istore_n 1, 1) := by decide +kernel
theorem dX10_records_11 : decode cX10_records 11 = .ok (.iload_n 1, 1) := by decide +kernel
theorem dX10_records_12 : decode cX10_records 12 = .ok (.sipush 2275, 3) := by decide +kernel
theorem dX10_records_15 : decode cX10_records 15 = .ok (.if_icmp .ge 25, 3) := by decide +kernel
theorem dX10_records_18 : decode cX10_records 18 = .ok (.aload_n 0, 1) := by decide +kernel
theorem dX10_records_19 : decode cX10_records 19 = .ok (.getfield 16, 3) := by decide +kernel
theorem dX10_records_22 : decode cX10_records 22 = .ok (.iload_n 1, 1) := by decide +kernel
theorem dX10_records_23 : decode cX10_records 23 = .ok (.aload_n 0, 1) := by decide +kernel
theorem dX10_records_24 : decode cX10_records 24 = .ok (.getfield 16, 3) := by decide +kernel
theorem dX10_records_27 : decode cX10_records 27 = .ok (.iload_n 1, 1) := by decide +kernel
theorem dX10_records_28 : decode cX10_records 28 = .ok (.sipush 455, 3) := by decide +kernel
theorem dX10_records_31 : decode cX10_records 31 = .ok (.iadd, 1) := by decide +kernel
theorem dX10_records_32 : decode cX10_records 32 = .ok (.iaload, 1) := by decide +kernel
theorem dX10_records_33 : decode cX10_records 33 = .ok (.iastore, 1) := by decide +kernel
theorem dX10_records_34 : decode cX10_records 34 = .ok (.iinc 1 1, 3) := by decide +kernel
theorem dX10_records_37 : decode cX10_records 37 = .ok (.goto (-26), 3) := by decide +kernel
theorem dX10_records_40 : decode cX10_records 40 = .ok (.aload_n 0, 1) := by decide +kernel
theorem dX10_records_41 : decode cX10_records 41 = .ok (.dup, 1) := by decide +kernel
theorem dX10_records_42 : decode cX10_records 42 = .ok (.getfield 39, 3) := by decide +kernel
theorem dX10_records_45 : decode cX10_records 45 = .ok (.iconst 1, 1) := by decide +kernel
theorem dX10_records_46 : decode cX10_records 46 = .ok (.isub, 1) := by decide +kernel
theorem dX10_records_47 : decode cX10_records 47 = .ok (.putfield 39, 3) := by decide +kernel
theorem dX10_records_50 : decode cX10_records 50 = .ok (.aload_n 0, 1) := by decide +kernel
theorem dX10_records_51 : decode cX10_records 51 = .ok (.getfield 7, 3) := by decide +kernel
theorem dX10_records_54 : decode cX10_records 54 = .ok (.iconst 0, 1) := by decide +kernel
theorem dX10_records_55 : decode cX10_records 55 = .ok (.aload_n 0, 1) := by decide +kernel
theorem dX10_records_56 : decode cX10_records 56 = .ok (.getfield 16, 3) := by decide +kernel
theorem dX10_records_59 : decode cX10_records 59 = .ok (.sipush 455, 3) := by decide +kernel
theorem dX10_records_62 : decode cX10_records 62 = .ok (.aload_n 0, 1) := by decide +kernel
theorem dX10_records_63 : decode cX10_records 63 = .ok (.getfield 39, 3) := by decide +kernel
theorem dX10_records_66 : decode cX10_records 66 = .ok (.imul, 1) := by decide +kernel
theorem dX10_records_67 : decode cX10_records 67 = .ok (.invokestatic 43, 3) := by decide +kernel
theorem dX10_records_70 : decode cX10_records 70 = .ok (.aload_n 0, 1) := by decide +kernel
theorem dX10_records_71 : decode cX10_records 71 = .ok (.dup, 1) := by decide +kernel
theorem dX10_records_72 : decode cX10_records 72 = .ok (.getfield 39, 3) := by decide +kernel
theorem dX10_records_75 : decode cX10_records 75 = .ok (.iconst 1, 1) := by decide +kernel
theorem dX10_records_76 : decode cX10_records 76 = .ok (.iadd, 1) := by decide +kernel
theorem dX10_records_77 : decode cX10_records 77 = .ok (.putfield 39, 3) := by decide +kernel
theorem dX10_records_80 : decode cX10_records 80 = .ok (.return_, 1) := by decide +kernel
theorem dX10_undo_0 : decode cX10_undo 0 = .ok (.aload_n 0, 1) := by decide +kernel
theorem dX10_undo_1 : decode cX10_undo 1 = .ok (.getfield 39, 3) := by decide +kernel
theorem dX10_undo_4 : decode cX10_undo 4 = .ok (.ifCond .ne 6, 3) := by decide +kernel
theorem dX10_undo_7 : decode cX10_undo 7 = .ok (.bipush (-5), 2) := by decide +kernel
theorem dX10_undo_9 : decode cX10_undo 9 = .ok (.ireturn, 1) := by decide +kernel
theorem dX10_undo_10 : decode cX10_undo 10 = .ok (.aload_n 0, 1) := by decide +kernel
theorem dX10_undo_11 : decode cX10_undo 11 = .ok (.dup, 1) := by decide +kernel
theorem dX10_undo_12 : decode cX10_undo 12 = .ok (.getfield 39, 3) := by decide +kernel
theorem dX10_undo_15 : decode cX10_undo 15 = .ok (.iconst 1, 1) := by decide +kernel
theorem dX10_undo_16 : decode cX10_undo 16 = .ok (.isub, 1) := by decide +kernel
theorem dX10_undo_17 : decode cX10_undo 17 = .ok (.putfield 39, 3) := by decide +kernel
theorem dX10_undo_20 : decode cX10_undo 20 = .ok (.aload_n 0, 1) := by decide +kernel
theorem dX10_undo_21 : decode cX10_undo 21 = .ok (.getfield 16, 3) := by decide +kernel
theorem dX10_undo_24 : decode cX10_undo 24 = .ok (.sipush 455, 3) := by decide +kernel
theorem dX10_undo_27 : decode cX10_undo 27 = .ok (.aload_n 0, 1) := by decide +kernel
theorem dX10_undo_28 : decode cX10_undo 28 = .ok (.getfield 39, 3) := by decide +kernel
theorem dX10_undo_31 : decode cX10_undo 31 = .ok (.imul, 1) := by decide +kernel

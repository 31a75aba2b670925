theorem dX0_init_0 : decode cX0_init 0 = .ok (.aload_n 0, 1) := by decide +kernel
theorem dX0_init_1 : decode cX0_init 1 = .ok (.invokespecial 3, 3) := by decide +kernel
theorem dX0_init_4 : decode cX0_init 4 = .ok (.aload_n 0, 1) := by decide +kernel
theorem dX0_init_5 : decode cX0_init 5 = .ok (.new 9, 3) := by decide +kernel
theorem dX0_init_8 : decode cX0_init 8 = .ok (.dup, 1) := by decide +kernel
theorem dX0_init_9 : decode cX0_init 9 = .ok (.invokespecial 11, 3) := by decide +kernel
theorem dX0_init_12 : decode cX0_init 12 = .ok (.putfield 12, 3) := by decide +kernel
theorem dX0_init_15 : decode cX0_init 15 = .ok (.aload_n 0, 1) := by decide +kernel
theorem dX0_init_16 : decode cX0_init 16 = .ok (.new 9, 3) := by decide +kernel
theorem dX0_init_19 : decode cX0_init 19 = .ok (.dup, 1) := by decide +kernel
theorem dX0_init_20 : decode cX0_init 20 = .ok (.invokespecial 11, 3) := by decide +kernel
theorem dX0_init_23 : decode cX0_init 23 = .ok (.putfield 18, 3) := by decide +kernel
theorem dX0_init_26 : decode cX0_init 26 = .ok (.aload_n 0, 1) := by decide +kernel
theorem dX0_init_27 : decode cX0_init 27 = .ok (.new 21, 3) := by decide +kernel
theorem dX0_init_30 : decode cX0_init 30 = .ok (.dup, 1) := by decide +kernel
theorem dX0_init_31 : decode cX0_init 31 = .ok (.invokespecial 23, 3) := by decide +kernel
theorem dX0_init_34 : decode cX0_init 34 = .ok (.putfield 24, 3) := by decide +kernel
theorem dX0_init_37 : decode cX0_init 37 = .ok (.return_, 1) := by decide +kernel
theorem dX0_isMade_0 : decode cX0_isMade 0 = .ok (.aload_n 0, 1) := by decide +kernel
theorem dX0_isMade_1 : decode cX0_isMade 1 = .ok (.getfield 28, 3) := by decide +kernel
theorem dX0_isMade_4 : decode cX0_isMade 4 = .ok (.ifCond .le 7, 3) := by decide +kernel
theorem dX0_isMade_7 : decode cX0_isMade 7 = .ok (.iconst 1, 1) := by decide +kernel
theorem dX0_isMade_8 : decode cX0_isMade 8 = .ok (.goto 4, 3) := by decide +kernel
theorem dX0_isMade_11 : decode cX0_isMade 11 = .ok (.iconst 0, 1) := by decide +kernel
theorem dX0_isMade_12 : decode cX0_isMade 12 = .ok (.ireturn, 1) := by decide +kernel
theorem dX0_facts_0 : decode cX0_facts 0 = .ok (.iload_n 1, 1) := by decide +kernel
theorem dX0_facts_1 : decode cX0_facts 1 = .ok (.ifCond .ne 10, 3) := by decide +kernel
theorem dX0_facts_4 : decode cX0_facts 4 = .ok (.aload_n 0, 1) := by decide +kernel
theorem dX0_facts_5 : decode cX0_facts 5 = .ok (.getfield 12, 3) := by decide +kernel
theorem dX0_facts_8 : decode cX0_facts 8 = .ok (.goto 7, 3) := by decide +kernel
theorem dX0_facts_11 : decode cX0_facts 11 = .ok (.aload_n 0, 1) := by decide +kernel
theorem dX0_facts_12 : decode cX0_facts 12 = .ok (.getfield 18, 3) := by decide +kernel
theorem dX0_facts_15 : decode cX0_facts 15 = .ok (.areturn, 1) := by decide +kernel
theorem dX0_learn_0 : decode cX0_learn 0 = .ok (.aload_n 0, 1) := by decide +kernel
theorem dX0_learn_1 : decode cX0_learn 1 = .ok (.getfield 12, 3) := by decide +kernel
theorem dX0_learn_4 : decode cX0_learn 4 = .ok (.aload_n 1, 1) := by decide +kernel
theorem dX0_learn_5 : decode cX0_learn 5 = .ok (.iconst 0, 1) := by decide +kernel
theorem dX0_learn_6 : decode cX0_learn 6 = .ok (.iload_n 3, 1) := by decide +kernel
theorem dX0_learn_7 : decode cX0_learn 7 = .ok (.iload_n 2, 1) := by decide +kernel
theorem dX0_learn_8 : decode cX0_learn 8 = .ok (.invokevirtual 32, 3) := by decide +kernel
theorem dX0_learn_11 : decode cX0_learn 11 = .ok (.aload_n 0, 1) := by decide +kernel
theorem dX0_learn_12 : decode cX0_learn 12 = .ok (.getfield 18, 3) := by decide +kernel
theorem dX0_learn_15 : decode cX0_learn 15 = .ok (.aload_n 1, 1) := by decide +kernel
theorem dX0_learn_16 : decode cX0_learn 16 = .ok (.iconst 1, 1) := by decide +kernel
theorem dX0_learn_17 : decode cX0_learn 17 = .ok (.iload_n 3, 1) := by decide +kernel
theorem dX0_learn_18 : decode cX0_learn 18 = .ok (.iload_n 2, 1) := by decide +kernel
theorem dX0_learn_19 : decode cX0_learn 19 = .ok (.invokevirtual 32, 3) := by decide +kernel
theorem dX0_learn_22 : decode cX0_learn 22 = .ok (.aload_n 0, 1) := by decide +kernel
theorem dX0_learn_23 : decode cX0_learn 23 = .ok (.getfield 24, 3) := by decide +kernel
theorem dX0_learn_26 : decode cX0_learn 26 = .ok (.aload_n 1, 1) := by decide +kernel
theorem dX0_learn_27 : decode cX0_learn 27 = .ok (.iload 4, 2) := by decide +kernel
theorem dX0_learn_29 : decode cX0_learn 29 = .ok (.invokevirtual 36, 3) := by decide +kernel
theorem dX0_learn_32 : decode cX0_learn 32 = .ok (.aload_n 0, 1) := by decide +kernel
theorem dX0_learn_33 : decode cX0_learn 33 = .ok (.aload_n 1, 1) := by decide +kernel
theorem dX0_learn_34 : decode cX0_learn 34 = .ok (.getfield 39, 3) := by decide +kernel
theorem dX0_learn_37 : decode cX0_learn 37 = .ok (.putfield 28, 3) := by decide +kernel
theorem dX0_learn_40 : decode cX0_learn 40 = .ok (.aload_n 0, 1) := by decide +kernel
theorem dX0_learn_41 : decode cX0_learn 41 = .ok (.iconst 0, 1) := by decide +kernel
theorem dX0_learn_42 : decode cX0_learn 42 = .ok (.putfield 44, 3) := by decide +kernel
theorem dX0_learn_45 : decode cX0_learn 45 = .ok (.return_, 1) := by decide +kernel
theorem dX0_noteChange_0 : decode cX0_noteChange 0 = .ok (.aload_n 0, 1) := by decide +kernel
theorem dX0_noteChange_1 : decode cX0_noteChange 1 = .ok (.invokevirtual 47, 3) := by decide +kernel
theorem dX0_noteChange_4 : decode cX0_noteChange 4 = .ok (.ifCond .eq 13, 3) := by decide +kernel
theorem dX0_noteChange_7 : decode cX0_noteChange 7 = .ok (.aload_n 0, 1) := by decide +kernel
theorem dX0_noteChange_8 : decode cX0_noteChange 8 = .ok (.dup, 1) := by decide +kernel
theorem dX0_noteChange_9 : decode cX0_noteChange 9 = .ok (.getfield 44, 3) := by decide +kernel
theorem dX0_noteChange_12 : decode cX0_noteChange 12 = .ok (.iconst 1, 1) := by decide +kernel
theorem dX0_noteChange_13 : decode cX0_noteChange 13 = .ok (.iadd, 1) := by decide +kernel
theorem dX0_noteChange_14 : decode cX0_noteChange 14 = .ok (.putfield 44, 3) := by decide +kernel
theorem dX0_noteChange_17 : decode cX0_noteChange 17 = .ok (.return_, 1) := by decide +kernel
theorem dX0_isStale_0 : decode cX0_isStale 0 = .ok (.bipush 100, 2) := by decide +kernel
theorem dX0_isStale_2 : decode cX0_isStale 2 = .ok (.aload_n 0, 1) := by decide +kernel
theorem dX0_isStale_3 : decode cX0_isStale 3 = .ok (.getfield 44, 3) := by decide +kernel
theorem dX0_isStale_6 : decode cX0_isStale 6 = .ok (.imul, 1) := by decide +kernel
theorem dX0_isStale_7 : decode cX0_isStale 7 = .ok (.iload_n 1, 1) := by decide +kernel
theorem dX0_isStale_8 : decode cX0_isStale 8 = .ok (.aload_n 0, 1) := by decide +kernel
theorem dX0_isStale_9 : decode cX0_isStale 9 = .ok (.getfield 28, 3) := by decide +kernel
theorem dX0_isStale_12 : decode cX0_isStale 12 = .ok (.imul, 1) := by decide +kernel
theorem dX0_isStale_13 : decode cX0_isStale 13 = .ok (.if_icmp .le 7, 3) := by decide +kernel
theorem dX0_isStale_16 : decode cX0_isStale 16 = .ok (.iconst 1, 1) := by decide +kernel
theorem dX0_isStale_17 : decode cX0_isStale 17 = .ok (.goto 4, 3) := by decide +kernel
theorem dX0_isStale_20 : decode cX0_isStale 20 = .ok (.iconst 0, 1) := by decide +kernel
theorem dX0_isStale_21 : decode cX0_isStale 21 = .ok (.ireturn, 1) := by decide +kernel
theorem dX0_guessBoth_0 : decode cX0_guessBoth 0 = .ok (.aload_n 0, 1) := by decide +kernel
theorem dX0_guessBoth_1 : decode cX0_guessBoth 1 = .ok (.getfield 24, 3) := by decide +kernel
theorem dX0_guessBoth_4 : decode cX0_guessBoth 4 = .ok (.iload_n 1, 1) := by decide +kernel
theorem dX0_guessBoth_5 : decode cX0_guessBoth 5 = .ok (.iload_n 2, 1) := by decide +kernel
theorem dX0_guessBoth_6 : decode cX0_guessBoth 6 = .ok (.iload_n 3, 1) := by decide +kernel
theorem dX0_guessBoth_7 : decode cX0_guessBoth 7 = .ok (.iload 4, 2) := by decide +kernel
theorem dX0_guessBoth_9 : decode cX0_guessBoth 9 = .ok (.invokevirtual 51, 3) := by decide +kernel
theorem dX0_guessBoth_12 : decode cX0_guessBoth 12 = .ok (.istore 5, 2) := by decide +kernel
theorem dX0_guessBoth_14 : decode cX0_guessBoth 14 = .ok (.aload_n 0, 1) := by decide +kernel
theorem dX0_guessBoth_15 : decode cX0_guessBoth 15 = .ok (.getfield 28, 3) := by decide +kernel
theorem dX0_guessBoth_18 : decode cX0_guessBoth 18 = .ok (.aload_n 0, 1) := by decide +kernel
theorem dX0_guessBoth_19 : decode cX0_guessBoth 19 = .ok (.getfield 24, 3) := by decide +kernel
theorem dX0_guessBoth_22 : decode cX0_guessBoth 22 = .ok (.iconst 0, 1) := by decide +kernel
theorem dX0_guessBoth_23 : decode cX0_guessBoth 23 = .ok (.bipush 99, 2) := by decide +kernel
theorem dX0_guessBoth_25 : decode cX0_guessBoth 25 = .ok (.iconst 0, 1) := by decide +kernel
theorem dX0_guessBoth_26 : decode cX0_guessBoth 26 = .ok (.bipush 99, 2) := by decide +kernel
theorem dX0_guessBoth_28 : decode cX0_guessBoth 28 = .ok (.invokevirtual 51, 3) := by decide +kernel
theorem dX0_guessBoth_31 : decode cX0_guessBoth 31 = .ok (.isub, 1) := by decide +kernel
theorem dX0_guessBoth_32 : decode cX0_guessBoth 32 = .ok (.istore 6, 2) := by decide +kernel
theorem dX0_guessBoth_34 : decode cX0_guessBoth 34 = .ok (.iload 6, 2) := by decide +kernel
theorem dX0_guessBoth_36 : decode cX0_guessBoth 36 = .ok (.ifCond .gt 6, 3) := by decide +kernel
theorem dX0_guessBoth_39 : decode cX0_guessBoth 39 = .ok (.iload 5, 2) := by decide +kernel
theorem dX0_guessBoth_41 : decode cX0_guessBoth 41 = .ok (.ireturn, 1) := by decide +kernel
theorem dX0_guessBoth_42 : decode cX0_guessBoth 42 = .ok (.aload_n 0, 1) := by decide +kernel
theorem dX0_guessBoth_43 : decode cX0_guessBoth 43 = .ok (.getfield 24, 3) := by decide +kernel
theorem dX0_guessBoth_46 : decode cX0_guessBoth 46 = .ok (.iload_n 1, 1) := by decide +kernel
theorem dX0_guessBoth_47 : decode cX0_guessBoth 47 = .ok (.iload_n 2, 1) := by decide +kernel
theorem dX0_guessBoth_48 : decode cX0_guessBoth 48 = .ok (.iconst 0, 1) := by decide +kernel
theorem dX0_guessBoth_49 : decode cX0_guessBoth 49 = .ok (.bipush 99, 2) := by decide +kernel
theorem dX0_guessBoth_51 : decode cX0_guessBoth 51 = .ok (.invokevirtual 51, 3) := by decide +kernel
theorem dX0_guessBoth_54 : decode cX0_guessBoth 54 = .ok (.istore 7, 2) := by decide +kernel
theorem dX0_guessBoth_56 : decode cX0_guessBoth 56 = .ok (.aload_n 0, 1) := by decide +kernel
theorem dX0_guessBoth_57 : decode cX0_guessBoth 57 = .ok (.getfield 24, 3) := by decide +kernel
theorem dX0_guessBoth_60 : decode cX0_guessBoth 60 = .ok (.iconst 0, 1) := by decide +kernel
theorem dX0_guessBoth_61 : decode cX0_guessBoth 61 = .ok (.bipush 99, 2) := by decide +kernel
theorem dX0_guessBoth_63 : decode cX0_guessBoth 63 = .ok (.iload_n 3, 1) := by decide +kernel
theorem dX0_guessBoth_64 : decode cX0_guessBoth 64 = .ok (.iload 4, 2) := by decide +kernel
theorem dX0_guessBoth_66 : decode cX0_guessBoth 66 = .ok (.invokevirtual 51, 3) := by decide +kernel
theorem dX0_guessBoth_69 : decode cX0_guessBoth 69 = .ok (.istore 8, 2) := by decide +kernel
theorem dX0_guessBoth_71 : decode cX0_guessBoth 71 = .ok (.aload_n 0, 1) := by decide +kernel
theorem dX0_guessBoth_72 : decode cX0_guessBoth 72 = .ok (.getfield 12, 3) := by decide +kernel
theorem dX0_guessBoth_75 : decode cX0_guessBoth 75 = .ok (.iload_n 1, 1) := by decide +kernel
theorem dX0_guessBoth_76 : decode cX0_guessBoth 76 = .ok (.iload_n 2, 1) := by decide +kernel
theorem dX0_guessBoth_77 : decode cX0_guessBoth 77 = .ok (.invokevirtual 55, 3) := by decide +kernel
theorem dX0_guessBoth_80 : decode cX0_guessBoth 80 = .ok (.iload 7, 2) := by decide +kernel
theorem dX0_guessBoth_82 : decode cX0_guessBoth 82 = .ok (.isub, 1) := by decide +kernel
theorem dX0_guessBoth_83 : decode cX0_guessBoth 83 = .ok (.iconst 0, 1) := by decide +kernel
theorem dX0_guessBoth_84 : decode cX0_guessBoth 84 = .ok (.invokestatic 59, 3) := by decide +kernel
theorem dX0_guessBoth_87 : decode cX0_guessBoth 87 = .ok (.istore 9, 2) := by decide +kernel
theorem dX0_guessBoth_89 : decode cX0_guessBoth 89 = .ok (.aload_n 0, 1) := by decide +kernel
theorem dX0_guessBoth_90 : decode cX0_guessBoth 90 = .ok (.getfield 18, 3) := by decide +kernel
theorem dX0_guessBoth_93 : decode cX0_guessBoth 93 = .ok (.iload_n 3, 1) := by decide +kernel
theorem dX0_guessBoth_94 : decode cX0_guessBoth 94 = .ok (.iload 4, 2) := by decide +kernel
theorem dX0_guessBoth_96 : decode cX0_guessBoth 96 = .ok (.invokevirtual 55, 3) := by decide +kernel
theorem dX0_guessBoth_99 : decode cX0_guessBoth 99 = .ok (.iload 8, 2) := by decide +kernel
theorem dX0_guessBoth_101 : decode cX0_guessBoth 101 = .ok (.isub, 1) := by decide +kernel
theorem dX0_guessBoth_102 : decode cX0_guessBoth 102 = .ok (.iconst 0, 1) := by decide +kernel
theorem dX0_guessBoth_103 : decode cX0_guessBoth 103 = .ok (.invokestatic 59, 3) := by decide +kernel
theorem dX0_guessBoth_106 : decode cX0_guessBoth 106 = .ok (.istore 10, 2) := by decide +kernel
theorem dX0_guessBoth_108 : decode cX0_guessBoth 108 = .ok (.iload 5, 2) := by decide +kernel
theorem dX0_guessBoth_110 : decode cX0_guessBoth 110 = .ok (.iload 9, 2) := by decide +kernel
theorem dX0_guessBoth_112 : decode cX0_guessBoth 112 = .ok (.iload 10, 2) := by decide +kernel
theorem dX0_guessBoth_114 : decode cX0_guessBoth 114 = .ok (.imul, 1) := by decide +kernel
theorem dX0_guessBoth_115 : decode cX0_guessBoth 115 = .ok (.iload 6, 2) := by decide +kernel
theorem dX0_guessBoth_117 : decode cX0_guessBoth 117 = .ok (.idiv, 1) := by decide +kernel
theorem dX0_guessBoth_118 : decode cX0_guessBoth 118 = .ok (.iadd, 1) := by decide +kernel
theorem dX0_guessBoth_119 : decode cX0_guessBoth 119 = .ok (.ireturn, 1) := by decide +kernel
theorem dX0_copyFrom_0 : decode cX0_copyFrom 0 = .ok (.aload_n 0, 1) := by decide +kernel
theorem dX0_copyFrom_1 : decode cX0_copyFrom 1 = .ok (.getfield 12, 3) := by decide +kernel
theorem dX0_copyFrom_4 : decode cX0_copyFrom 4 = .ok (.aload_n 1, 1) := by decide +kernel
theorem dX0_copyFrom_5 : decode cX0_copyFrom 5 = .ok (.getfield 12, 3) := by decide +kernel
theorem dX0_copyFrom_8 : decode cX0_copyFrom 8 = .ok (.invokevirtual 64, 3) := by decide +kernel
theorem dX0_copyFrom_11 : decode cX0_copyFrom 11 = .ok (.aload_n 0, 1) := by decide +kernel
theorem dX0_copyFrom_12 : decode cX0_copyFrom 12 = .ok (.getfield 18, 3) := by decide +kernel
theorem dX0_copyFrom_15 : decode cX0_copyFrom 15 = .ok (.aload_n 1, 1) := by decide +kernel
theorem dX0_copyFrom_16 : decode cX0_copyFrom 16 = .ok (.getfield 18, 3) := by decide +kernel
theorem dX0_copyFrom_19 : decode cX0_copyFrom 19 = .ok (.invokevirtual 64, 3) := by decide +kernel
theorem dX0_copyFrom_22 : decode cX0_copyFrom 22 = .ok (.aload_n 0, 1) := by decide +kernel
theorem dX0_copyFrom_23 : decode cX0_copyFrom 23 = .ok (.getfield 24, 3) := by decide +kernel
theorem dX0_copyFrom_26 : decode cX0_copyFrom 26 = .ok (.aload_n 1, 1) := by decide +kernel
theorem dX0_copyFrom_27 : decode cX0_copyFrom 27 = .ok (.getfield 24, 3) := by decide +kernel
theorem dX0_copyFrom_30 : decode cX0_copyFrom 30 = .ok (.invokevirtual 68, 3) := by decide +kernel
theorem dX0_copyFrom_33 : decode cX0_copyFrom 33 = .ok (.aload_n 0, 1) := by decide +kernel
theorem dX0_copyFrom_34 : decode cX0_copyFrom 34 = .ok (.aload_n 1, 1) := by decide +kernel
theorem dX0_copyFrom_35 : decode cX0_copyFrom 35 = .ok (.getfield 28, 3) := by decide +kernel
theorem dX0_copyFrom_38 : decode cX0_copyFrom 38 = .ok (.putfield 28, 3) := by decide +kernel
theorem dX0_copyFrom_41 : decode cX0_copyFrom 41 = .ok (.aload_n 0, 1) := by decide +kernel
theorem dX0_copyFrom_42 : decode cX0_copyFrom 42 = .ok (.aload_n 1, 1) := by decide +kernel
theorem dX0_copyFrom_43 : decode cX0_copyFrom 43 = .ok (.getfield 44, 3) := by decide +kernel
theorem dX0_copyFrom_46 : decode cX0_copyFrom 46 = .ok (.putfield 44, 3) := by decide +kernel
theorem dX0_copyFrom_49 : decode cX0_copyFrom 49 = .ok (.return_, 1) := by decide +kernel
theorem dX1_ofFloat_0 : decode cX1_ofFloat 0 = .ok (.fload_n 0, 1) := by decide +kernel
theorem dX1_ofFloat_1 : decode cX1_ofFloat 1 = .ok (.f2d, 1) := by decide +kernel
theorem dX1_ofFloat_2 : decode cX1_ofFloat 2 = .ok (.bipush 127, 2) := by decide +kernel
theorem dX1_ofFloat_4 : decode cX1_ofFloat 4 = .ok (.bipush 23, 2) := by decide +kernel
theorem dX1_ofFloat_6 : decode cX1_ofFloat 6 = .ok (.invokestatic 7, 3) := by decide +kernel
theorem dX1_ofFloat_9 : decode cX1_ofFloat 9 = .ok (.l2i, 1) := by decide +kernel
theorem dX1_ofFloat_10 : decode cX1_ofFloat 10 = .ok (.ireturn, 1) := by decide +kernel
theorem dX1_ofDouble_0 : decode cX1_ofDouble 0 = .ok (.dload_n 0, 1) := by decide +kernel
theorem dX1_ofDouble_1 : decode cX1_ofDouble 1 = .ok (.sipush 1023, 3) := by decide +kernel
theorem dX1_ofDouble_4 : decode cX1_ofDouble 4 = .ok (.bipush 52, 2) := by decide +kernel
theorem dX1_ofDouble_6 : decode cX1_ofDouble 6 = .ok (.invokestatic 7, 3) := by decide +kernel
theorem dX1_ofDouble_9 : decode cX1_ofDouble 9 = .ok (.lreturn, 1) := by decide +kernel
theorem dX1_bits_0 : decode cX1_bits 0 = .ok (.dload_n 0, 1) := by decide +kernel
theorem dX1_bits_1 : decode cX1_bits 1 = .ok (.dconst 0, 1) := by decide +kernel
theorem dX1_bits_2 : decode cX1_bits 2 = .ok (.dcmp .g, 1) := by decide +kernel
theorem dX1_bits_3 : decode cX1_bits 3 = .ok (.ifCond .gt 5, 3) := by decide +kernel
theorem dX1_bits_6 : decode cX1_bits 6 = .ok (.lconst 0, 1) := by decide +kernel
theorem dX1_bits_7 : decode cX1_bits 7 = .ok (.lreturn, 1) := by decide +kernel
theorem dX1_bits_8 : decode cX1_bits 8 = .ok (.iload_n 2, 1) := by decide +kernel
theorem dX1_bits_9 : decode cX1_bits 9 = .ok (.i2l, 1) := by decide +kernel
theorem dX1_bits_10 : decode cX1_bits 10 = .ok (.lstore 4, 2) := by decide +kernel
theorem dX1_bits_12 : decode cX1_bits 12 = .ok (.dload_n 0, 1) := by decide +kernel
theorem dX1_bits_13 : decode cX1_bits 13 = .ok (.dstore 6, 2) := by decide +kernel
theorem dX1_bits_15 : decode cX1_bits 15 = .ok (.iconst 0, 1) := by decide +kernel
theorem dX1_bits_16 : decode cX1_bits 16 = .ok (.istore 8, 2) := by decide +kernel
theorem dX1_bits_18 : decode cX1_bits 18 = .ok (.iload 8, 2) := by decide +kernel
theorem dX1_bits_20 : decode cX1_bits 20 = .ok (.bipush 64, 2) := by decide +kernel
theorem dX1_bits_22 : decode cX1_bits 22 = .ok (.if_icmp .ge 30, 3) := by decide +kernel
theorem dX1_bits_25 : decode cX1_bits 25 = .ok (.dload 6, 2) := by decide +kernel
theorem dX1_bits_27 : decode cX1_bits 27 = .ok (.dconst 1, 1) := by decide +kernel
theorem dX1_bits_28 : decode cX1_bits 28 = .ok (.dcmp .g, 1) := by decide +kernel
theorem dX1_bits_29 : decode cX1_bits 29 = .ok (.ifCond .ge 23, 3) := by decide +kernel
theorem dX1_bits_32 : decode cX1_bits 32 = .ok (.dload 6, 2) := by decide +kernel
theorem dX1_bits_34 : decode cX1_bits 34 = .ok (.ldc2_w 13, 3) := by decide +kernel
theorem dX1_bits_37 : decode cX1_bits 37 = .ok (.dmul, 1) := by decide +kernel
theorem dX1_bits_38 : decode cX1_bits 38 = .ok (.dstore 6, 2) := by decide +kernel
theorem dX1_bits_40 : decode cX1_bits 40 = .ok (.lload 4, 2) := by decide +kernel
theorem dX1_bits_42 : decode cX1_bits 42 = .ok (.lconst 1, 1) := by decide +kernel
theorem dX1_bits_43 : decode cX1_bits 43 = .ok (.lsub, 1) := by decide +kernel
theorem dX1_bits_44 : decode cX1_bits 44 = .ok (.lstore 4, 2) := by decide +kernel
theorem dX1_bits_46 : decode cX1_bits 46 = .ok (.iinc 8 1, 3) := by decide +kernel
theorem dX1_bits_49 : decode cX1_bits 49 = .ok (.goto (-31), 3) := by decide +kernel
theorem dX1_bits_52 : decode cX1_bits 52 = .ok (.iconst 0, 1) := by decide +kernel
theorem dX1_bits_53 : decode cX1_bits 53 = .ok (.istore 8, 2) := by decide +kernel
theorem dX1_bits_55 : decode cX1_bits 55 = .ok (.iload 8, 2) := by decide +kernel
theorem dX1_bits_57 : decode cX1_bits 57 = .ok (.bipush 64, 2) := by decide +kernel
theorem dX1_bits_59 : decode cX1_bits 59 = .ok (.if_icmp .ge 32, 3) := by decide +kernel
theorem dX1_bits_62 : decode cX1_bits 62 = .ok (.dload 6, 2) := by decide +kernel
theorem dX1_bits_64 : decode cX1_bits 64 = .ok (.ldc2_w 13, 3) := by decide +kernel
theorem dX1_bits_67 : decode cX1_bits 67 = .ok (.dcmp .l, 1) := by decide +kernel
theorem dX1_bits_68 : decode cX1_bits 68 = .ok (.ifCond .lt 23, 3) := by decide +kernel
theorem dX1_bits_71 : decode cX1_bits 71 = .ok (.dload 6, 2) := by decide +kernel
theorem dX1_bits_73 : decode cX1_bits 73 = .ok (.ldc2_w 13, 3) := by decide +kernel
theorem dX1_bits_76 : decode cX1_bits 76 = .ok (.ddiv, 1) := by decide +kernel
theorem dX1_bits_77 : decode cX1_bits 77 = .ok (.dstore 6, 2) := by decide +kernel
theorem dX1_bits_79 : decode cX1_bits 79 = .ok (.lload 4, 2) := by decide +kernel
theorem dX1_bits_81 : decode cX1_bits 81 = .ok (.lconst 1, 1) := by decide +kernel
theorem dX1_bits_82 : decode cX1_bits 82 = .ok (.ladd, 1) := by decide +kernel
theorem dX1_bits_83 : decode cX1_bits 83 = .ok (.lstore 4, 2) := by decide +kernel
theorem dX1_bits_85 : decode cX1_bits 85 = .ok (.iinc 8 1, 3) := by decide +kernel
theorem dX1_bits_88 : decode cX1_bits 88 = .ok (.goto (-33), 3) := by decide +kernel
theorem dX1_bits_91 : decode cX1_bits 91 = .ok (.dload 6, 2) := by decide +kernel
theorem dX1_bits_93 : decode cX1_bits 93 = .ok (.dconst 1, 1) := by decide +kernel
theorem dX1_bits_94 : decode cX1_bits 94 = .ok (.dsub, 1) := by decide +kernel
theorem dX1_bits_95 : decode cX1_bits 95 = .ok (.lconst 1, 1) := by decide +kernel
theorem dX1_bits_96 : decode cX1_bits 96 = .ok (.iload_n 3, 1) := by decide +kernel
theorem dX1_bits_97 : decode cX1_bits 97 = .ok (.lshl, 1) := by decide +kernel
theorem dX1_bits_98 : decode cX1_bits 98 = .ok (.l2d, 1) := by decide +kernel
theorem dX1_bits_99 : decode cX1_bits 99 = .ok (.dmul, 1) := by decide +kernel
theorem dX1_bits_100 : decode cX1_bits 100 = .ok (.dstore 8, 2) := by decide +kernel
theorem dX1_bits_102 : decode cX1_bits 102 = .ok (.lload 4, 2) := by decide +kernel
theorem dX1_bits_104 : decode cX1_bits 104 = .ok (.iload_n 3, 1) := by decide +kernel
theorem dX1_bits_105 : decode cX1_bits 105 = .ok (.lshl, 1) := by decide +kernel
theorem dX1_bits_106 : decode cX1_bits 106 = .ok (.dload 8, 2) := by decide +kernel
theorem dX1_bits_108 : decode cX1_bits 108 = .ok (.d2l, 1) := by decide +kernel
theorem dX1_bits_109 : decode cX1_bits 109 = .ok (.ladd, 1) := by decide +kernel
theorem dX1_bits_110 : decode cX1_bits 110 = .ok (.lreturn, 1) := by decide +kernel
theorem dX2_init_0 : decode cX2_init 0 = .ok (.aload_n 0, 1) := by decide +kernel
theorem dX2_init_1 : decode cX2_init 1 = .ok (.invokespecial 3, 3) := by decide +kernel
theorem dX2_init_4 : decode cX2_init 4 = .ok (.aload_n 0, 1) := by decide +kernel
theorem dX2_init_5 : decode cX2_init 5 = .ok (.bipush 100, 2) := by decide +kernel
theorem dX2_init_7 : decode cX2_init 7 = .ok (.newarray .int, 2) := by decide +kernel
theorem dX2_init_9 : decode cX2_init 9 = .ok (.putfield 9, 3) := by decide +kernel
theorem dX2_init_12 : decode cX2_init 12 = .ok (.aload_n 0, 1) := by decide +kernel
theorem dX2_init_13 : decode cX2_init 13 = .ok (.bipush 6, 2) := by decide +kernel
theorem dX2_init_15 : decode cX2_init 15 = .ok (.newarray .int, 2) := by decide +kernel
theorem dX2_init_17 : decode cX2_init 17 = .ok (.putfield 15, 3) := by decide +kernel
theorem dX2_init_20 : decode cX2_init 20 = .ok (.aload_n 0, 1) := by decide +kernel
theorem dX2_init_21 : decode cX2_init 21 = .ok (.bipush 6, 2) := by decide +kernel
theorem dX2_init_23 : decode cX2_init 23 = .ok (.newarray .int, 2) := by decide +kernel
theorem dX2_init_25 : decode cX2_init 25 = .ok (.putfield 18, 3) := by decide +kernel
theorem dX2_init_28 : decode cX2_init 28 = .ok (.aload_n 0, 1) := by decide +kernel
theorem dX2_init_29 : decode cX2_init 29 = .ok (.bipush 10, 2) := by decide +kernel
theorem dX2_init_31 : decode cX2_init 31 = .ok (.newarray .int, 2) := by decide +kernel
theorem dX2_init_33 : decode cX2_init 33 = .ok (.putfield 21, 3) := by decide +kernel
theorem dX2_init_36 : decode cX2_init 36 = .ok (.aload_n 0, 1) := by decide +kernel
theorem dX2_init_37 : decode cX2_init 37 = .ok (.bipush 10, 2) := by decide +kernel
theorem dX2_init_39 : decode cX2_init 39 = .ok (.newarray .int, 2) := by decide +kernel
theorem dX2_init_41 : decode cX2_init 41 = .ok (.putfield 24, 3) := by decide +kernel
theorem dX2_init_44 : decode cX2_init 44 = .ok (.aload_n 0, 1) := by decide +kernel
theorem dX2_init_45 : decode cX2_init 45 = .ok (.bipush 10, 2) := by decide +kernel
theorem dX2_init_47 : decode cX2_init 47 = .ok (.newarray .int, 2) := by decide +kernel
theorem dX2_init_49 : decode cX2_init 49 = .ok (.putfield 27, 3) := by decide +kernel
theorem dX2_init_52 : decode cX2_init 52 = .ok (.aload_n 0, 1) := by decide +kernel
theorem dX2_init_53 : decode cX2_init 53 = .ok (.bipush 10, 2) := by decide +kernel
theorem dX2_init_55 : decode cX2_init 55 = .ok (.newarray .int, 2) := by decide +kernel
theorem dX2_init_57 : decode cX2_init 57 = .ok (.putfield 30, 3) := by decide +kernel
theorem dX2_init_60 : decode cX2_init 60 = .ok (.return_, 1) := by decide +kernel
theorem dX2_learn_0 : decode cX2_learn 0 = .ok (.aload_n 0, 1) := by decide +kernel
theorem dX2_learn_1 : decode cX2_learn 1 = .ok (.aload_n 1, 1) := by decide +kernel
theorem dX2_learn_2 : decode cX2_learn 2 = .ok (.iload_n 2, 1) := by decide +kernel
theorem dX2_learn_3 : decode cX2_learn 3 = .ok (.invokevirtual 33, 3) := by decide +kernel
theorem dX2_learn_6 : decode cX2_learn 6 = .ok (.aload_n 0, 1) := by decide +kernel
theorem dX2_learn_7 : decode cX2_learn 7 = .ok (.iload_n 3, 1) := by decide +kernel
theorem dX2_learn_8 : decode cX2_learn 8 = .ok (.invokevirtual 37, 3) := by decide +kernel
theorem dX2_learn_11 : decode cX2_learn 11 = .ok (.aload_n 0, 1) := by decide +kernel
theorem dX2_learn_12 : decode cX2_learn 12 = .ok (.aload_n 1, 1) := by decide +kernel
theorem dX2_learn_13 : decode cX2_learn 13 = .ok (.getfield 41, 3) := by decide +kernel
theorem dX2_learn_16 : decode cX2_learn 16 = .ok (.iload 4, 2) := by decide +kernel
theorem dX2_learn_18 : decode cX2_learn 18 = .ok (.invokevirtual 47, 3) := by decide +kernel
theorem dX2_learn_21 : decode cX2_learn 21 = .ok (.return_, 1) := by decide +kernel
theorem dX2_countValues_0 : decode cX2_countValues 0 = .ok (.iconst 0, 1) := by decide +kernel
theorem dX2_countValues_1 : decode cX2_countValues 1 = .ok (.istore_n 3, 1) := by decide +kernel
theorem dX2_countValues_2 : decode cX2_countValues 2 = .ok (.iload_n 3, 1) := by decide +kernel
theorem dX2_countValues_3 : decode cX2_countValues 3 = .ok (.bipush 100, 2) := by decide +kernel
theorem dX2_countValues_5 : decode cX2_countValues 5 = .ok (.if_icmp .ge 16, 3) := by decide +kernel
theorem dX2_countValues_8 : decode cX2_countValues 8 = .ok (.aload_n 0, 1) := by decide +kernel
theorem dX2_countValues_9 : decode cX2_countValues 9 = .ok (.getfield 9, 3) := by decide +kernel
theorem dX2_countValues_12 : decode cX2_countValues 12 = .ok (.iload_n 3, 1) := by decide +kernel
theorem dX2_countValues_13 : decode cX2_countValues 13 = .ok (.iconst 0, 1) := by decide +kernel
theorem dX2_countValues_14 : decode cX2_countValues 14 = .ok (.iastore, 1) := by decide +kernel
theorem dX2_countValues_15 : decode cX2_countValues 15 = .ok (.iinc 3 1, 3) := by decide +kernel
theorem dX2_countValues_18 : decode cX2_countValues 18 = .ok (.goto (-16), 3) := by decide +kernel
theorem dX2_countValues_21 : decode cX2_countValues 21 = .ok (.iconst 0, 1) := by decide +kernel
theorem dX2_countValues_22 : decode cX2_countValues 22 = .ok (.istore_n 3, 1) := by decide +kernel
theorem dX2_countValues_23 : decode cX2_countValues 23 = .ok (.iload_n 3, 1) := by decide +kernel
theorem dX2_countValues_24 : decode cX2_countValues 24 = .ok (.aload_n 1, 1) := by decide +kernel
theorem dX2_countValues_25 : decode cX2_countValues 25 = .ok (.getfield 41, 3) := by decide +kernel
theorem dX2_countValues_28 : decode cX2_countValues 28 = .ok (.if_icmp .ge 40, 3) := by decide +kernel
theorem dX2_countValues_31 : decode cX2_countValues 31 = .ok (.aload_n 1, 1) := by decide +kernel
theorem dX2_countValues_32 : decode cX2_countValues 32 = .ok (.iload_n 3, 1) := by decide +kernel
theorem dX2_countValues_33 : decode cX2_countValues 33 = .ok (.iload_n 2, 1) := by decide +kernel
theorem dX2_countValues_34 : decode cX2_countValues 34 = .ok (.invokevirtual 51, 3) := by decide +kernel
theorem dX2_countValues_37 : decode cX2_countValues 37 = .ok (.istore 4, 2) := by decide +kernel
theorem dX2_countValues_39 : decode cX2_countValues 39 = .ok (.iload 4, 2) := by decide +kernel
theorem dX2_countValues_41 : decode cX2_countValues 41 = .ok (.ifCond .lt 21, 3) := by decide +kernel
theorem dX2_countValues_44 : decode cX2_countValues 44 = .ok (.iload 4, 2) := by decide +kernel
theorem dX2_countValues_46 : decode cX2_countValues 46 = .ok (.bipush 100, 2) := by decide +kernel
theorem dX2_countValues_48 : decode cX2_countValues 48 = .ok (.if_icmp .ge 14, 3) := by decide +kernel
theorem dX2_countValues_51 : decode cX2_countValues 51 = .ok (.aload_n 0, 1) := by decide +kernel
theorem dX2_countValues_52 : decode cX2_countValues 52 = .ok (.getfield 9, 3) := by decide +kernel
theorem dX2_countValues_55 : decode cX2_countValues 55 = .ok (.iload 4, 2) := by decide +kernel
theorem dX2_countValues_57 : decode cX2_countValues 57 = .ok (.dup2, 1) := by decide +kernel
theorem dX2_countValues_58 : decode cX2_countValues 58 = .ok (.iaload, 1) := by decide +kernel
theorem dX2_countValues_59 : decode cX2_countValues 59 = .ok (.iconst 1, 1) := by decide +kernel
theorem dX2_countValues_60 : decode cX2_countValues 60 = .ok (.iadd, 1) := by decide +kernel
theorem dX2_countValues_61 : decode cX2_countValues 61 = .ok (.iastore, 1) := by decide +kernel
theorem dX2_countValues_62 : decode cX2_countValues 62 = .ok (.iinc 3 1, 3) := by decide +kernel
theorem dX2_countValues_65 : decode cX2_countValues 65 = .ok (.goto (-42), 3) := by decide +kernel
theorem dX2_countValues_68 : decode cX2_countValues 68 = .ok (.return_, 1) := by decide +kernel
theorem dX2_chooseCommon_0 : decode cX2_chooseCommon 0 = .ok (.aload_n 0, 1) := by decide +kernel
theorem dX2_chooseCommon_1 : decode cX2_chooseCommon 1 = .ok (.iconst 0, 1) := by decide +kernel
theorem dX2_chooseCommon_2 : decode cX2_chooseCommon 2 = .ok (.putfield 55, 3) := by decide +kernel
theorem dX2_chooseCommon_5 : decode cX2_chooseCommon 5 = .ok (.ldc 58, 2) := by decide +kernel
theorem dX2_chooseCommon_7 : decode cX2_chooseCommon 7 = .ok (.istore_n 2, 1) := by decide +kernel
theorem dX2_chooseCommon_8 : decode cX2_chooseCommon 8 = .ok (.iconst 0, 1) := by decide +kernel
theorem dX2_chooseCommon_9 : decode cX2_chooseCommon 9 = .ok (.istore_n 3, 1) := by decide +kernel
theorem dX2_chooseCommon_10 : decode cX2_chooseCommon 10 = .ok (.iload_n 3, 1) := by decide +kernel
theorem dX2_chooseCommon_11 : decode cX2_chooseCommon 11 = .ok (.iload_n 1, 1) := by decide +kernel
theorem dX2_chooseCommon_12 : decode cX2_chooseCommon 12 = .ok (.if_icmp .ge 59, 3) := by decide +kernel
theorem dX2_chooseCommon_15 : decode cX2_chooseCommon 15 = .ok (.iload_n 3, 1) := by decide +kernel
theorem dX2_chooseCommon_16 : decode cX2_chooseCommon 16 = .ok (.bipush 6, 2) := by decide +kernel
theorem dX2_chooseCommon_18 : decode cX2_chooseCommon 18 = .ok (.if_icmp .ge 53, 3) := by decide +kernel
theorem dX2_chooseCommon_21 : decode cX2_chooseCommon 21 = .ok (.aload_n 0, 1) := by decide +kernel
theorem dX2_chooseCommon_22 : decode cX2_chooseCommon 22 = .ok (.iload_n 2, 1) := by decide +kernel
theorem dX2_chooseCommon_23 : decode cX2_chooseCommon 23 = .ok (.invokevirtual 59, 3) := by decide +kernel
theorem dX2_chooseCommon_26 : decode cX2_chooseCommon 26 = .ok (.istore_n 2, 1) := by decide +kernel
theorem dX2_chooseCommon_27 : decode cX2_chooseCommon 27 = .ok (.iload_n 2, 1) := by decide +kernel
theorem dX2_chooseCommon_28 : decode cX2_chooseCommon 28 = .ok (.ifCond .ne 4, 3) := by decide +kernel
theorem dX2_chooseCommon_31 : decode cX2_chooseCommon 31 = .ok (.return_, 1) := by decide +kernel
theorem dX2_chooseCommon_32 : decode cX2_chooseCommon 32 = .ok (.aload_n 0, 1) := by decide +kernel
theorem dX2_chooseCommon_33 : decode cX2_chooseCommon 33 = .ok (.getfield 15, 3) := by decide +kernel
theorem dX2_chooseCommon_36 : decode cX2_chooseCommon 36 = .ok (.iload_n 3, 1) := by decide +kernel
theorem dX2_chooseCommon_37 : decode cX2_chooseCommon 37 = .ok (.bipush 99, 2) := by decide +kernel
theorem dX2_chooseCommon_39 : decode cX2_chooseCommon 39 = .ok (.iload_n 2, 1) := by decide +kernel
theorem dX2_chooseCommon_40 : decode cX2_chooseCommon 40 = .ok (.bipush 100, 2) := by decide +kernel
theorem dX2_chooseCommon_42 : decode cX2_chooseCommon 42 = .ok (.irem, 1) := by decide +kernel
theorem dX2_chooseCommon_43 : decode cX2_chooseCommon 43 = .ok (.isub, 1) := by decide +kernel
theorem dX2_chooseCommon_44 : decode cX2_chooseCommon 44 = .ok (.iastore, 1) := by decide +kernel
theorem dX2_chooseCommon_45 : decode cX2_chooseCommon 45 = .ok (.aload_n 0, 1) := by decide +kernel
theorem dX2_chooseCommon_46 : decode cX2_chooseCommon 46 = .ok (.getfield 18, 3) := by decide +kernel
theorem dX2_chooseCommon_49 : decode cX2_chooseCommon 49 = .ok (.iload_n 3, 1) := by decide +kernel
theorem dX2_chooseCommon_50 : decode cX2_chooseCommon 50 = .ok (.iload_n 2, 1) := by decide +kernel
theorem dX2_chooseCommon_51 : decode cX2_chooseCommon 51 = .ok (.bipush 100, 2) := by decide +kernel
theorem dX2_chooseCommon_53 : decode cX2_chooseCommon 53 = .ok (.idiv, 1) := by decide +kernel
theorem dX2_chooseCommon_54 : decode cX2_chooseCommon 54 = .ok (.iastore, 1) := by decide +kernel
theorem dX2_chooseCommon_55 : decode cX2_chooseCommon 55 = .ok (.aload_n 0, 1) := by decide +kernel
theorem dX2_chooseCommon_56 : decode cX2_chooseCommon 56 = .ok (.dup, 1) := by decide +kernel
theorem dX2_chooseCommon_57 : decode cX2_chooseCommon 57 = .ok (.getfield 55, 3) := by decide +kernel
theorem dX2_chooseCommon_60 : decode cX2_chooseCommon 60 = .ok (.iconst 1, 1) := by decide +kernel
theorem dX2_chooseCommon_61 : decode cX2_chooseCommon 61 = .ok (.iadd, 1) := by decide +kernel
theorem dX2_chooseCommon_62 : decode cX2_chooseCommon 62 = .ok (.putfield 55, 3) := by decide +kernel
theorem dX2_chooseCommon_65 : decode cX2_chooseCommon 65 = .ok (.iinc 3 1, 3) := by decide +kernel
theorem dX2_chooseCommon_68 : decode cX2_chooseCommon 68 = .ok (.goto (-58), 3) := by decide +kernel
theorem dX2_chooseCommon_71 : decode cX2_chooseCommon 71 = .ok (.return_, 1) := by decide +kernel
theorem dX2_nextRank_0 : decode cX2_nextRank 0 = .ok (.iconst 0, 1) := by decide +kernel
theorem dX2_nextRank_1 : decode cX2_nextRank 1 = .ok (.istore_n 2, 1) := by decide +kernel
theorem dX2_nextRank_2 : decode cX2_nextRank 2 = .ok (.iconst 0, 1) := by decide +kernel
theorem dX2_nextRank_3 : decode cX2_nextRank 3 = .ok (.istore_n 3, 1) := by decide +kernel
theorem dX2_nextRank_4 : decode cX2_nextRank 4 = .ok (.iload_n 3, 1) := by decide +kernel
theorem dX2_nextRank_5 : decode cX2_nextRank 5 = .ok (.bipush 100, 2) := by decide +kernel
theorem dX2_nextRank_7 : decode cX2_nextRank 7 = .ok (.if_icmp .ge 50, 3) := by decide +kernel
theorem dX2_nextRank_10 : decode cX2_nextRank 10 = .ok (.aload_n 0, 1) := by decide +kernel
theorem dX2_nextRank_11 : decode cX2_nextRank 11 = .ok (.getfield 9, 3) := by decide +kernel
theorem dX2_nextRank_14 : decode cX2_nextRank 14 = .ok (.iload_n 3, 1) := by decide +kernel
theorem dX2_nextRank_15 : decode cX2_nextRank 15 = .ok (.iaload, 1) := by decide +kernel
theorem dX2_nextRank_16 : decode cX2_nextRank 16 = .ok (.bipush 100, 2) := by decide +kernel
theorem dX2_nextRank_18 : decode cX2_nextRank 18 = .ok (.imul, 1) := by decide +kernel
theorem dX2_nextRank_19 : decode cX2_nextRank 19 = .ok (.bipush 99, 2) := by decide +kernel
theorem dX2_nextRank_21 : decode cX2_nextRank 21 = .ok (.iadd, 1) := by decide +kernel
theorem dX2_nextRank_22 : decode cX2_nextRank 22 = .ok (.iload_n 3, 1) := by decide +kernel
theorem dX2_nextRank_23 : decode cX2_nextRank 23 = .ok (.isub, 1) := by decide +kernel
theorem dX2_nextRank_24 : decode cX2_nextRank 24 = .ok (.istore 4, 2) := by decide +kernel
theorem dX2_nextRank_26 : decode cX2_nextRank 26 = .ok (.aload_n 0, 1) := by decide +kernel
theorem dX2_nextRank_27 : decode cX2_nextRank 27 = .ok (.getfield 9, 3) := by decide +kernel
theorem dX2_nextRank_30 : decode cX2_nextRank 30 = .ok (.iload_n 3, 1) := by decide +kernel
theorem dX2_nextRank_31 : decode cX2_nextRank 31 = .ok (.iaload, 1) := by decide +kernel
theorem dX2_nextRank_32 : decode cX2_nextRank 32 = .ok (.iconst 2, 1) := by decide +kernel
theorem dX2_nextRank_33 : decode cX2_nextRank 33 = .ok (.if_icmp .lt 18, 3) := by decide +kernel
theorem dX2_nextRank_36 : decode cX2_nextRank 36 = .ok (.iload 4, 2) := by decide +kernel
theorem dX2_nextRank_38 : decode cX2_nextRank 38 = .ok (.iload_n 1, 1) := by decide +kernel
theorem dX2_nextRank_39 : decode cX2_nextRank 39 = .ok (.if_icmp .ge 12, 3) := by decide +kernel
theorem dX2_nextRank_42 : decode cX2_nextRank 42 = .ok (.iload 4, 2) := by decide +kernel
theorem dX2_nextRank_44 : decode cX2_nextRank 44 = .ok (.iload_n 2, 1) := by decide +kernel
theorem dX2_nextRank_45 : decode cX2_nextRank 45 = .ok (.if_icmp .le 6, 3) := by decide +kernel
theorem dX2_nextRank_48 : decode cX2_nextRank 48 = .ok (.iload 4, 2) := by decide +kernel
theorem dX2_nextRank_50 : decode cX2_nextRank 50 = .ok (.istore_n 2, 1) := by decide +kernel
theorem dX2_nextRank_51 : decode cX2_nextRank 51 = .ok (.iinc 3 1, 3) := by decide +kernel
theorem dX2_nextRank_54 : decode cX2_nextRank 54 = .ok (.goto (-50), 3) := by decide +kernel
theorem dX2_nextRank_57 : decode cX2_nextRank 57 = .ok (.iload_n 2, 1) := by decide +kernel
theorem dX2_nextRank_58 : decode cX2_nextRank 58 = .ok (.ireturn, 1) := by decide +kernel
theorem dX2_isCommon_0 : decode cX2_isCommon 0 = .ok (.iconst 0, 1) := by decide +kernel
theorem dX2_isCommon_1 : decode cX2_isCommon 1 = .ok (.istore_n 2, 1) := by decide +kernel
theorem dX2_isCommon_2 : decode cX2_isCommon 2 = .ok (.iload_n 2, 1) := by decide +kernel
theorem dX2_isCommon_3 : decode cX2_isCommon 3 = .ok (.aload_n 0, 1) := by decide +kernel
theorem dX2_isCommon_4 : decode cX2_isCommon 4 = .ok (.getfield 55, 3) := by decide +kernel
theorem dX2_isCommon_7 : decode cX2_isCommon 7 = .ok (.if_icmp .ge 21, 3) := by decide +kernel
theorem dX2_isCommon_10 : decode cX2_isCommon 10 = .ok (.aload_n 0, 1) := by decide +kernel
theorem dX2_isCommon_11 : decode cX2_isCommon 11 = .ok (.getfield 15, 3) := by decide +kernel
theorem dX2_isCommon_14 : decode cX2_isCommon 14 = .ok (.iload_n 2, 1) := by decide +kernel
theorem dX2_isCommon_15 : decode cX2_isCommon 15 = .ok (.iaload, 1) := by decide +kernel
theorem dX2_isCommon_16 : decode cX2_isCommon 16 = .ok (.iload_n 1, 1) := by decide +kernel
theorem dX2_isCommon_17 : decode cX2_isCommon 17 = .ok (.if_icmp .ne 5, 3) := by decide +kernel
theorem dX2_isCommon_20 : decode cX2_isCommon 20 = .ok (.iconst 1, 1) := by decide +kernel
theorem dX2_isCommon_21 : decode cX2_isCommon 21 = .ok (.ireturn, 1) := by decide +kernel
theorem dX2_isCommon_22 : decode cX2_isCommon 22 = .ok (.iinc 2 1, 3) := by decide +kernel
theorem dX2_isCommon_25 : decode cX2_isCommon 25 = .ok (.goto (-23), 3) := by decide +kernel
theorem dX2_isCommon_28 : decode cX2_isCommon 28 = .ok (.iconst 0, 1) := by decide +kernel
theorem dX2_isCommon_29 : decode cX2_isCommon 29 = .ok (.ireturn, 1) := by decide +kernel
theorem dX2_cutBuckets_0 : decode cX2_cutBuckets 0 = .ok (.iload_n 1, 1) := by decide +kernel
theorem dX2_cutBuckets_1 : decode cX2_cutBuckets 1 = .ok (.istore_n 3, 1) := by decide +kernel
theorem dX2_cutBuckets_2 : decode cX2_cutBuckets 2 = .ok (.iconst 0, 1) := by decide +kernel
theorem dX2_cutBuckets_3 : decode cX2_cutBuckets 3 = .ok (.istore 4, 2) := by decide +kernel
theorem dX2_cutBuckets_5 : decode cX2_cutBuckets 5 = .ok (.iload 4, 2) := by decide +kernel
theorem dX2_cutBuckets_7 : decode cX2_cutBuckets 7 = .ok (.aload_n 0, 1) := by decide +kernel
theorem dX2_cutBuckets_8 : decode cX2_cutBuckets 8 = .ok (.getfield 55, 3) := by decide +kernel
theorem dX2_cutBuckets_11 : decode cX2_cutBuckets 11 = .ok (.if_icmp .ge 19, 3) := by decide +kernel
theorem dX2_cutBuckets_14 : decode cX2_cutBuckets 14 = .ok (.iload_n 3, 1) := by decide +kernel
theorem dX2_cutBuckets_15 : decode cX2_cutBuckets 15 = .ok (.aload_n 0, 1) := by decide +kernel
theorem dX2_cutBuckets_16 : decode cX2_cutBuckets 16 = .ok (.getfield 18, 3) := by decide +kernel
theorem dX2_cutBuckets_19 : decode cX2_cutBuckets 19 = .ok (.iload 4, 2) := by decide +kernel
theorem dX2_cutBuckets_21 : decode cX2_cutBuckets 21 = .ok (.iaload, 1) := by decide +kernel
theorem dX2_cutBuckets_22 : decode cX2_cutBuckets 22 = .ok (.isub, 1) := by decide +kernel
theorem dX2_cutBuckets_23 : decode cX2_cutBuckets 23 = .ok (.istore_n 3, 1) := by decide +kernel
theorem dX2_cutBuckets_24 : decode cX2_cutBuckets 24 = .ok (.iinc 4 1, 3) := by decide +kernel
theorem dX2_cutBuckets_27 : decode cX2_cutBuckets 27 = .ok (.goto (-22), 3) := by decide +kernel
theorem dX2_cutBuckets_30 : decode cX2_cutBuckets 30 = .ok (.aload_n 0, 1) := by decide +kernel
theorem dX2_cutBuckets_31 : decode cX2_cutBuckets 31 = .ok (.iload_n 2, 1) := by decide +kernel
theorem dX2_cutBuckets_32 : decode cX2_cutBuckets 32 = .ok (.bipush 10, 2) := by decide +kernel
theorem dX2_cutBuckets_34 : decode cX2_cutBuckets 34 = .ok (.invokestatic 63, 3) := by decide +kernel
theorem dX2_cutBuckets_37 : decode cX2_cutBuckets 37 = .ok (.iload_n 3, 1) := by decide +kernel
theorem dX2_cutBuckets_38 : decode cX2_cutBuckets 38 = .ok (.invokestatic 63, 3) := by decide +kernel
theorem dX2_cutBuckets_41 : decode cX2_cutBuckets 41 = .ok (.putfield 68, 3) := by decide +kernel
theorem dX2_cutBuckets_44 : decode cX2_cutBuckets 44 = .ok (.iconst (-1), 1) := by decide +kernel
theorem dX2_cutBuckets_45 : decode cX2_cutBuckets 45 = .ok (.istore 4, 2) := by decide +kernel
theorem dX2_cutBuckets_47 : decode cX2_cutBuckets 47 = .ok (.iconst 0, 1) := by decide +kernel
theorem dX2_cutBuckets_48 : decode cX2_cutBuckets 48 = .ok (.istore 5, 2) := by decide +kernel
theorem dX2_cutBuckets_50 : decode cX2_cutBuckets 50 = .ok (.iconst 0, 1) := by decide +kernel
theorem dX2_cutBuckets_51 : decode cX2_cutBuckets 51 = .ok (.istore 6, 2) := by decide +kernel
theorem dX2_cutBuckets_53 : decode cX2_cutBuckets 53 = .ok (.iload 6, 2) := by decide +kernel
theorem dX2_cutBuckets_55 : decode cX2_cutBuckets 55 = .ok (.bipush 100, 2) := by decide +kernel
theorem dX2_cutBuckets_57 : decode cX2_cutBuckets 57 = .ok (.if_icmp .ge 83, 3) := by decide +kernel
theorem dX2_cutBuckets_60 : decode cX2_cutBuckets 60 = .ok (.aload_n 0, 1) := by decide +kernel
theorem dX2_cutBuckets_61 : decode cX2_cutBuckets 61 = .ok (.iload 6, 2) := by decide +kernel
theorem dX2_cutBuckets_63 : decode cX2_cutBuckets 63 = .ok (.invokevirtual 71, 3) := by decide +kernel
theorem dX2_cutBuckets_66 : decode cX2_cutBuckets 66 = .ok (.ifCond .eq 7, 3) := by decide +kernel
theorem dX2_cutBuckets_69 : decode cX2_cutBuckets 69 = .ok (.iconst 0, 1) := by decide +kernel
theorem dX2_cutBuckets_70 : decode cX2_cutBuckets 70 = .ok (.goto 10, 3) := by decide +kernel
theorem dX2_cutBuckets_73 : decode cX2_cutBuckets 73 = .ok (.aload_n 0, 1) := by decide +kernel
theorem dX2_cutBuckets_74 : decode cX2_cutBuckets 74 = .ok (.getfield 9, 3) := by decide +kernel
theorem dX2_cutBuckets_77 : decode cX2_cutBuckets 77 = .ok (.iload 6, 2) := by decide +kernel
theorem dX2_cutBuckets_79 : decode cX2_cutBuckets 79 = .ok (.iaload, 1) := by decide +kernel
theorem dX2_cutBuckets_80 : decode cX2_cutBuckets 80 = .ok (.istore 7, 2) := by decide +kernel
theorem dX2_cutBuckets_82 : decode cX2_cutBuckets 82 = .ok (.iconst 0, 1) := by decide +kernel
theorem dX2_cutBuckets_83 : decode cX2_cutBuckets 83 = .ok (.istore 8, 2) := by decide +kernel
theorem dX2_cutBuckets_85 : decode cX2_cutBuckets 85 = .ok (.iload 8, 2) := by decide +kernel
theorem dX2_cutBuckets_87 : decode cX2_cutBuckets 87 = .ok (.iload 7, 2) := by decide +kernel
theorem dX2_cutBuckets_89 : decode cX2_cutBuckets 89 = .ok (.if_icmp .ge 45, 3) := by decide +kernel
theorem dX2_cutBuckets_92 : decode cX2_cutBuckets 92 = .ok (.iload 5, 2) := by decide +kernel
theorem dX2_cutBuckets_94 : decode cX2_cutBuckets 94 = .ok (.ifCond .ne 23, 3) := by decide +kernel
theorem dX2_cutBuckets_97 : decode cX2_cutBuckets 97 = .ok (.iinc 4 1, 3) := by decide +kernel
theorem dX2_cutBuckets_100 : decode cX2_cutBuckets 100 = .ok (.aload_n 0, 1) := by decide +kernel
theorem dX2_cutBuckets_101 : decode cX2_cutBuckets 101 = .ok (.iload 4, 2) := by decide +kernel
theorem dX2_cutBuckets_103 : decode cX2_cutBuckets 103 = .ok (.iload_n 3, 1) := by decide +kernel
theorem dX2_cutBuckets_104 : decode cX2_cutBuckets 104 = .ok (.invokevirtual 75, 3) := by decide +kernel
theorem dX2_cutBuckets_107 : decode cX2_cutBuckets 107 = .ok (.istore 5, 2) := by decide +kernel
theorem dX2_cutBuckets_109 : decode cX2_cutBuckets 109 = .ok (.aload_n 0, 1) := by decide +kernel
theorem dX2_cutBuckets_110 : decode cX2_cutBuckets 110 = .ok (.iload 4, 2) := by decide +kernel
theorem dX2_cutBuckets_112 : decode cX2_cutBuckets 112 = .ok (.iload 6, 2) := by decide +kernel
theorem dX2_cutBuckets_114 : decode cX2_cutBuckets 114 = .ok (.invokevirtual 78, 3) := by decide +kernel
theorem dX2_cutBuckets_117 : decode cX2_cutBuckets 117 = .ok (.aload_n 0, 1) := by decide +kernel
theorem dX2_cutBuckets_118 : decode cX2_cutBuckets 118 = .ok (.iload 4, 2) := by decide +kernel
theorem dX2_cutBuckets_120 : decode cX2_cutBuckets 120 = .ok (.iload 6, 2) := by decide +kernel
theorem dX2_cutBuckets_122 : decode cX2_cutBuckets 122 = .ok (.invokevirtual 81, 3) := by decide +kernel
theorem dX2_cutBuckets_125 : decode cX2_cutBuckets 125 = .ok (.iinc 5 (-1), 3) := by decide +kernel
theorem dX2_cutBuckets_128 : decode cX2_cutBuckets 128 = .ok (.iinc 8 1, 3) := by decide +kernel
theorem dX2_cutBuckets_131 : decode cX2_cutBuckets 131 = .ok (.goto (-46), 3) := by decide +kernel
theorem dX2_cutBuckets_134 : decode cX2_cutBuckets 134 = .ok (.iinc 6 1, 3) := by decide +kernel
theorem dX2_cutBuckets_137 : decode cX2_cutBuckets 137 = .ok (.goto (-84), 3) := by decide +kernel
theorem dX2_cutBuckets_140 : decode cX2_cutBuckets 140 = .ok (.return_, 1) := by decide +kernel
theorem dX2_fullHeight_0 : decode cX2_fullHeight 0 = .ok (.aload_n 0, 1) := by decide +kernel
theorem dX2_fullHeight_1 : decode cX2_fullHeight 1 = .ok (.getfield 68, 3) := by decide +kernel
theorem dX2_fullHeight_4 : decode cX2_fullHeight 4 = .ok (.ifCond .gt 5, 3) := by decide +kernel
theorem dX2_fullHeight_7 : decode cX2_fullHeight 7 = .ok (.iconst 0, 1) := by decide +kernel
theorem dX2_fullHeight_8 : decode cX2_fullHeight 8 = .ok (.ireturn, 1) := by decide +kernel
theorem dX2_fullHeight_9 : decode cX2_fullHeight 9 = .ok (.iload_n 2, 1) := by decide +kernel
theorem dX2_fullHeight_10 : decode cX2_fullHeight 10 = .ok (.aload_n 0, 1) := by decide +kernel
theorem dX2_fullHeight_11 : decode cX2_fullHeight 11 = .ok (.getfield 68, 3) := by decide +kernel
theorem dX2_fullHeight_14 : decode cX2_fullHeight 14 = .ok (.idiv, 1) := by decide +kernel
theorem dX2_fullHeight_15 : decode cX2_fullHeight 15 = .ok (.iload_n 1, 1) := by decide +kernel
theorem dX2_fullHeight_16 : decode cX2_fullHeight 16 = .ok (.iload_n 2, 1) := by decide +kernel
theorem dX2_fullHeight_17 : decode cX2_fullHeight 17 = .ok (.aload_n 0, 1) := by decide +kernel
theorem dX2_fullHeight_18 : decode cX2_fullHeight 18 = .ok (.getfield 68, 3) := by decide +kernel
theorem dX2_fullHeight_21 : decode cX2_fullHeight 21 = .ok (.irem, 1) := by decide +kernel
theorem dX2_fullHeight_22 : decode cX2_fullHeight 22 = .ok (.if_icmp .ge 7, 3) := by decide +kernel
theorem dX2_fullHeight_25 : decode cX2_fullHeight 25 = .ok (.iconst 1, 1) := by decide +kernel
theorem dX2_fullHeight_26 : decode cX2_fullHeight 26 = .ok (.goto 4, 3) := by decide +kernel
theorem dX2_fullHeight_29 : decode cX2_fullHeight 29 = .ok (.iconst 0, 1) := by decide +kernel
theorem dX2_fullHeight_30 : decode cX2_fullHeight 30 = .ok (.iadd, 1) := by decide +kernel
theorem dX2_fullHeight_31 : decode cX2_fullHeight 31 = .ok (.ireturn, 1) := by decide +kernel
theorem dX2_startBucket_0 : decode cX2_startBucket 0 = .ok (.iload_n 1, 1) := by decide +kernel
theorem dX2_startBucket_1 : decode cX2_startBucket 1 = .ok (.ifCond .lt 11, 3) := by decide +kernel
theorem dX2_startBucket_4 : decode cX2_startBucket 4 = .ok (.iload_n 1, 1) := by decide +kernel
theorem dX2_startBucket_5 : decode cX2_startBucket 5 = .ok (.aload_n 0, 1) := by decide +kernel
theorem dX2_startBucket_6 : decode cX2_startBucket 6 = .ok (.getfield 68, 3) := by decide +kernel
theorem dX2_startBucket_9 : decode cX2_startBucket 9 = .ok (.if_icmp .lt 4, 3) := by decide +kernel
theorem dX2_startBucket_12 : decode cX2_startBucket 12 = .ok (.return_, 1) := by decide +kernel
theorem dX2_startBucket_13 : decode cX2_startBucket 13 = .ok (.aload_n 0, 1) := by decide +kernel
theorem dX2_startBucket_14 : decode cX2_startBucket 14 = .ok (.getfield 21, 3) := by decide +kernel
theorem dX2_startBucket_17 : decode cX2_startBucket 17 = .ok (.iload_n 1, 1) := by decide +kernel
theorem dX2_startBucket_18 : decode cX2_startBucket 18 = .ok (.iload_n 2, 1) := by decide +kernel
theorem dX2_startBucket_19 : decode cX2_startBucket 19 = .ok (.iastore, 1) := by decide +kernel
theorem dX2_startBucket_20 : decode cX2_startBucket 20 = .ok (.aload_n 0, 1) := by decide +kernel
theorem dX2_startBucket_21 : decode cX2_startBucket 21 = .ok (.getfield 24, 3) := by decide +kernel
theorem dX2_startBucket_24 : decode cX2_startBucket 24 = .ok (.iload_n 1, 1) := by decide +kernel
theorem dX2_startBucket_25 : decode cX2_startBucket 25 = .ok (.iload_n 2, 1) := by decide +kernel
theorem dX2_startBucket_26 : decode cX2_startBucket 26 = .ok (.iastore, 1) := by decide +kernel
theorem dX2_startBucket_27 : decode cX2_startBucket 27 = .ok (.aload_n 0, 1) := by decide +kernel
theorem dX2_startBucket_28 : decode cX2_startBucket 28 = .ok (.getfield 27, 3) := by decide +kernel
theorem dX2_startBucket_31 : decode cX2_startBucket 31 = .ok (.iload_n 1, 1) := by decide +kernel
theorem dX2_startBucket_32 : decode cX2_startBucket 32 = .ok (.iconst 0, 1) := by decide +kernel
theorem dX2_startBucket_33 : decode cX2_startBucket 33 = .ok (.iastore, 1) := by decide +kernel
theorem dX2_startBucket_34 : decode cX2_startBucket 34 = .ok (.aload_n 0, 1) := by decide +kernel
theorem dX2_startBucket_35 : decode cX2_startBucket 35 = .ok (.getfield 30, 3) := by decide +kernel
theorem dX2_startBucket_38 : decode cX2_startBucket 38 = .ok (.iload_n 1, 1) := by decide +kernel
theorem dX2_startBucket_39 : decode cX2_startBucket 39 = .ok (.iconst 1, 1) := by decide +kernel
theorem dX2_startBucket_40 : decode cX2_startBucket 40 = .ok (.iastore, 1) := by decide +kernel
theorem dX2_startBucket_41 : decode cX2_startBucket 41 = .ok (.return_, 1) := by decide +kernel
theorem dX2_addToBucket_0 : decode cX2_addToBucket 0 = .ok (.iload_n 1, 1) := by decide +kernel
theorem dX2_addToBucket_1 : decode cX2_addToBucket 1 = .ok (.ifCond .lt 11, 3) := by decide +kernel
theorem dX2_addToBucket_4 : decode cX2_addToBucket 4 = .ok (.iload_n 1, 1) := by decide +kernel
theorem dX2_addToBucket_5 : decode cX2_addToBucket 5 = .ok (.aload_n 0, 1) := by decide +kernel
theorem dX2_addToBucket_6 : decode cX2_addToBucket 6 = .ok (.getfield 68, 3) := by decide +kernel
theorem dX2_addToBucket_9 : decode cX2_addToBucket 9 = .ok (.if_icmp .lt 4, 3) := by decide +kernel
theorem dX2_addToBucket_12 : decode cX2_addToBucket 12 = .ok (.return_, 1) := by decide +kernel
theorem dX2_addToBucket_13 : decode cX2_addToBucket 13 = .ok (.iload_n 2, 1) := by decide +kernel
theorem dX2_addToBucket_14 : decode cX2_addToBucket 14 = .ok (.aload_n 0, 1) := by decide +kernel
theorem dX2_addToBucket_15 : decode cX2_addToBucket 15 = .ok (.getfield 24, 3) := by decide +kernel
theorem dX2_addToBucket_18 : decode cX2_addToBucket 18 = .ok (.iload_n 1, 1) := by decide +kernel
theorem dX2_addToBucket_19 : decode cX2_addToBucket 19 = .ok (.iaload, 1) := by decide +kernel
theorem dX2_addToBucket_20 : decode cX2_addToBucket 20 = .ok (.if_icmp .eq 13, 3) := by decide +kernel
theorem dX2_addToBucket_23 : decode cX2_addToBucket 23 = .ok (.aload_n 0, 1) := by decide +kernel
theorem dX2_addToBucket_24 : decode cX2_addToBucket 24 = .ok (.getfield 30, 3) := by decide +kernel
theorem dX2_addToBucket_27 : decode cX2_addToBucket 27 = .ok (.iload_n 1, 1) := by decide +kernel
theorem dX2_addToBucket_28 : decode cX2_addToBucket 28 = .ok (.dup2, 1) := by decide +kernel
theorem dX2_addToBucket_29 : decode cX2_addToBucket 29 = .ok (.iaload, 1) := by decide +kernel
theorem dX2_addToBucket_30 : decode cX2_addToBucket 30 = .ok (.iconst 1, 1) := by decide +kernel
theorem dX2_addToBucket_31 : decode cX2_addToBucket 31 = .ok (.iadd, 1) := by decide +kernel
theorem dX2_addToBucket_32 : decode cX2_addToBucket 32 = .ok (.iastore, 1) := by decide +kernel
theorem dX2_addToBucket_33 : decode cX2_addToBucket 33 = .ok (.aload_n 0, 1) := by decide +kernel
theorem dX2_addToBucket_34 : decode cX2_addToBucket 34 = .ok (.getfield 24, 3) := by decide +kernel
theorem dX2_addToBucket_37 : decode cX2_addToBucket 37 = .ok (.iload_n 1, 1) := by decide +kernel
theorem dX2_addToBucket_38 : decode cX2_addToBucket 38 = .ok (.iload_n 2, 1) := by decide +kernel
theorem dX2_addToBucket_39 : decode cX2_addToBucket 39 = .ok (.iastore, 1) := by decide +kernel
theorem dX2_addToBucket_40 : decode cX2_addToBucket 40 = .ok (.aload_n 0, 1) := by decide +kernel
theorem dX2_addToBucket_41 : decode cX2_addToBucket 41 = .ok (.getfield 27, 3) := by decide +kernel
theorem dX2_addToBucket_44 : decode cX2_addToBucket 44 = .ok (.iload_n 1, 1) := by decide +kernel
theorem dX2_addToBucket_45 : decode cX2_addToBucket 45 = .ok (.dup2, 1) := by decide +kernel
theorem dX2_addToBucket_46 : decode cX2_addToBucket 46 = .ok (.iaload, 1) := by decide +kernel
theorem dX2_addToBucket_47 : decode cX2_addToBucket 47 = .ok (.iconst 1, 1) := by decide +kernel
theorem dX2_addToBucket_48 : decode cX2_addToBucket 48 = .ok (.iadd, 1) := by decide +kernel
theorem dX2_addToBucket_49 : decode cX2_addToBucket 49 = .ok (.iastore, 1) := by decide +kernel
theorem dX2_addToBucket_50 : decode cX2_addToBucket 50 = .ok (.return_, 1) := by decide +kernel
theorem dX2_tellCommon_0 : decode cX2_tellCommon 0 = .ok (.iload_n 1, 1) := by decide +kernel
theorem dX2_tellCommon_1 : decode cX2_tellCommon 1 = .ok (.ifCond .lt 11, 3) := by decide +kernel
theorem dX2_tellCommon_4 : decode cX2_tellCommon 4 = .ok (.iload_n 1, 1) := by decide +kernel
theorem dX2_tellCommon_5 : decode cX2_tellCommon 5 = .ok (.aload_n 0, 1) := by decide +kernel
theorem dX2_tellCommon_6 : decode cX2_tellCommon 6 = .ok (.getfield 55, 3) := by decide +kernel
theorem dX2_tellCommon_9 : decode cX2_tellCommon 9 = .ok (.if_icmp .lt 5, 3) := by decide +kernel
theorem dX2_tellCommon_12 : decode cX2_tellCommon 12 = .ok (.iconst (-1), 1) := by decide +kernel
theorem dX2_tellCommon_13 : decode cX2_tellCommon 13 = .ok (.ireturn, 1) := by decide +kernel
theorem dX2_tellCommon_14 : decode cX2_tellCommon 14 = .ok (.iload_n 2, 1) := by decide +kernel
theorem dX2_tellCommon_15 : decode cX2_tellCommon 15 = .ok (.ifCond .ne 12, 3) := by decide +kernel
theorem dX2_tellCommon_18 : decode cX2_tellCommon 18 = .ok (.aload_n 0, 1) := by decide +kernel
theorem dX2_tellCommon_19 : decode cX2_tellCommon 19 = .ok (.getfield 15, 3) := by decide +kernel
theorem dX2_tellCommon_22 : decode cX2_tellCommon 22 = .ok (.iload_n 1, 1) := by decide +kernel
theorem dX2_tellCommon_23 : decode cX2_tellCommon 23 = .ok (.iaload, 1) := by decide +kernel
theorem dX2_tellCommon_24 : decode cX2_tellCommon 24 = .ok (.goto 9, 3) := by decide +kernel
theorem dX2_tellCommon_27 : decode cX2_tellCommon 27 = .ok (.aload_n 0, 1) := by decide +kernel
theorem dX2_tellCommon_28 : decode cX2_tellCommon 28 = .ok (.getfield 18, 3) := by decide +kernel
theorem dX2_tellCommon_31 : decode cX2_tellCommon 31 = .ok (.iload_n 1, 1) := by decide +kernel
theorem dX2_tellCommon_32 : decode cX2_tellCommon 32 = .ok (.iaload, 1) := by decide +kernel
theorem dX2_tellCommon_33 : decode cX2_tellCommon 33 = .ok (.ireturn, 1) := by decide +kernel
theorem dX2_tellBucket_0 : decode cX2_tellBucket 0 = .ok (.iload_n 1, 1) := by decide +kernel
theorem dX2_tellBucket_1 : decode cX2_tellBucket 1 = .ok (.ifCond .lt 11, 3) := by decide +kernel
theorem dX2_tellBucket_4 : decode cX2_tellBucket 4 = .ok (.iload_n 1, 1) := by decide +kernel
theorem dX2_tellBucket_5 : decode cX2_tellBucket 5 = .ok (.aload_n 0, 1) := by decide +kernel
theorem dX2_tellBucket_6 : decode cX2_tellBucket 6 = .ok (.getfield 68, 3) := by decide +kernel
theorem dX2_tellBucket_9 : decode cX2_tellBucket 9 = .ok (.if_icmp .lt 5, 3) := by decide +kernel
theorem dX2_tellBucket_12 : decode cX2_tellBucket 12 = .ok (.iconst (-1), 1) := by decide +kernel
theorem dX2_tellBucket_13 : decode cX2_tellBucket 13 = .ok (.ireturn, 1) := by decide +kernel
theorem dX2_tellBucket_14 : decode cX2_tellBucket 14 = .ok (.iload_n 2, 1) := by decide +kernel
theorem dX2_tellBucket_15 : decode cX2_tellBucket 15 = .ok (.tableswitch 46 0 2 #[25, 32, 39], 25) := by decide +kernel
theorem dX2_tellBucket_40 : decode cX2_tellBucket 40 = .ok (.aload_n 0, 1) := by decide +kernel
theorem dX2_tellBucket_41 : decode cX2_tellBucket 41 = .ok (.getfield 21, 3) := by decide +kernel
theorem dX2_tellBucket_44 : decode cX2_tellBucket 44 = .ok (.iload_n 1, 1) := by decide +kernel
theorem dX2_tellBucket_45 : decode cX2_tellBucket 45 = .ok (.iaload, 1) := by decide +kernel
theorem dX2_tellBucket_46 : decode cX2_tellBucket 46 = .ok (.ireturn, 1) := by decide +kernel
theorem dX2_tellBucket_47 : decode cX2_tellBucket 47 = .ok (.aload_n 0, 1) := by decide +kernel
theorem dX2_tellBucket_48 : decode cX2_tellBucket 48 = .ok (.getfield 24, 3) := by decide +kernel
theorem dX2_tellBucket_51 : decode cX2_tellBucket 51 = .ok (.iload_n 1, 1) := by decide +kernel
theorem dX2_tellBucket_52 : decode cX2_tellBucket 52 = .ok (.iaload, 1) := by decide +kernel
theorem dX2_tellBucket_53 : decode cX2_tellBucket 53 = .ok (.ireturn, 1) := by decide +kernel
theorem dX2_tellBucket_54 : decode cX2_tellBucket 54 = .ok (.aload_n 0, 1) := by decide +kernel
theorem dX2_tellBucket_55 : decode cX2_tellBucket 55 = .ok (.getfield 27, 3) := by decide +kernel
theorem dX2_tellBucket_58 : decode cX2_tellBucket 58 = .ok (.iload_n 1, 1) := by decide +kernel
theorem dX2_tellBucket_59 : decode cX2_tellBucket 59 = .ok (.iaload, 1) := by decide +kernel
theorem dX2_tellBucket_60 : decode cX2_tellBucket 60 = .ok (.ireturn, 1) := by decide +kernel
theorem dX2_tellBucket_61 : decode cX2_tellBucket 61 = .ok (.aload_n 0, 1) := by decide +kernel
theorem dX2_tellBucket_62 : decode cX2_tellBucket 62 = .ok (.getfield 30, 3) := by decide +kernel
theorem dX2_tellBucket_65 : decode cX2_tellBucket 65 = .ok (.iload_n 1, 1) := by decide +kernel
theorem dX2_tellBucket_66 : decode cX2_tellBucket 66 = .ok (.iaload, 1) := by decide +kernel
theorem dX2_tellBucket_67 : decode cX2_tellBucket 67 = .ok (.ireturn, 1) := by decide +kernel
theorem dX2_rowsOfBuckets_0 : decode cX2_rowsOfBuckets 0 = .ok (.iconst 0, 1) := by decide +kernel
theorem dX2_rowsOfBuckets_1 : decode cX2_rowsOfBuckets 1 = .ok (.istore_n 1, 1) := by decide +kernel
theorem dX2_rowsOfBuckets_2 : decode cX2_rowsOfBuckets 2 = .ok (.iconst 0, 1) := by decide +kernel
theorem dX2_rowsOfBuckets_3 : decode cX2_rowsOfBuckets 3 = .ok (.istore_n 2, 1) := by decide +kernel
theorem dX2_rowsOfBuckets_4 : decode cX2_rowsOfBuckets 4 = .ok (.iload_n 2, 1) := by decide +kernel
theorem dX2_rowsOfBuckets_5 : decode cX2_rowsOfBuckets 5 = .ok (.aload_n 0, 1) := by decide +kernel
theorem dX2_rowsOfBuckets_6 : decode cX2_rowsOfBuckets 6 = .ok (.getfield 68, 3) := by decide +kernel
theorem dX2_rowsOfBuckets_9 : decode cX2_rowsOfBuckets 9 = .ok (.if_icmp .ge 18, 3) := by decide +kernel
theorem dX2_rowsOfBuckets_12 : decode cX2_rowsOfBuckets 12 = .ok (.iload_n 1, 1) := by decide +kernel
theorem dX2_rowsOfBuckets_13 : decode cX2_rowsOfBuckets 13 = .ok (.aload_n 0, 1) := by decide +kernel
theorem dX2_rowsOfBuckets_14 : decode cX2_rowsOfBuckets 14 = .ok (.getfield 27, 3) := by decide +kernel
theorem dX2_rowsOfBuckets_17 : decode cX2_rowsOfBuckets 17 = .ok (.iload_n 2, 1) := by decide +kernel
theorem dX2_rowsOfBuckets_18 : decode cX2_rowsOfBuckets 18 = .ok (.iaload, 1) := by decide +kernel
theorem dX2_rowsOfBuckets_19 : decode cX2_rowsOfBuckets 19 = .ok (.iadd, 1) := by decide +kernel
theorem dX2_rowsOfBuckets_20 : decode cX2_rowsOfBuckets 20 = .ok (.istore_n 1, 1) := by decide +kernel
theorem dX2_rowsOfBuckets_21 : decode cX2_rowsOfBuckets 21 = .ok (.iinc 2 1, 3) := by decide +kernel
theorem dX2_rowsOfBuckets_24 : decode cX2_rowsOfBuckets 24 = .ok (.goto (-20), 3) := by decide +kernel
theorem dX2_rowsOfBuckets_27 : decode cX2_rowsOfBuckets 27 = .ok (.iload_n 1, 1) := by decide +kernel
theorem dX2_rowsOfBuckets_28 : decode cX2_rowsOfBuckets 28 = .ok (.ireturn, 1) := by decide +kernel
theorem dX2_rowsOfCommon_0 : decode cX2_rowsOfCommon 0 = .ok (.iconst 0, 1) := by decide +kernel
theorem dX2_rowsOfCommon_1 : decode cX2_rowsOfCommon 1 = .ok (.istore_n 3, 1) := by decide +kernel
theorem dX2_rowsOfCommon_2 : decode cX2_rowsOfCommon 2 = .ok (.iconst 0, 1) := by decide +kernel
theorem dX2_rowsOfCommon_3 : decode cX2_rowsOfCommon 3 = .ok (.istore 4, 2) := by decide +kernel
theorem dX2_rowsOfCommon_5 : decode cX2_rowsOfCommon 5 = .ok (.iload 4, 2) := by decide +kernel
theorem dX2_rowsOfCommon_7 : decode cX2_rowsOfCommon 7 = .ok (.aload_n 0, 1) := by decide +kernel
theorem dX2_rowsOfCommon_8 : decode cX2_rowsOfCommon 8 = .ok (.getfield 55, 3) := by decide +kernel
theorem dX2_rowsOfCommon_11 : decode cX2_rowsOfCommon 11 = .ok (.if_icmp .ge 38, 3) := by decide +kernel
theorem dX2_rowsOfCommon_14 : decode cX2_rowsOfCommon 14 = .ok (.iload_n 3, 1) := by decide +kernel
theorem dX2_rowsOfCommon_15 : decode cX2_rowsOfCommon 15 = .ok (.aload_n 0, 1) := by decide +kernel
theorem dX2_rowsOfCommon_16 : decode cX2_rowsOfCommon 16 = .ok (.getfield 15, 3) := by decide +kernel
theorem dX2_rowsOfCommon_19 : decode cX2_rowsOfCommon 19 = .ok (.iload 4, 2) := by decide +kernel
theorem dX2_rowsOfCommon_21 : decode cX2_rowsOfCommon 21 = .ok (.iaload, 1) := by decide +kernel
theorem dX2_rowsOfCommon_22 : decode cX2_rowsOfCommon 22 = .ok (.iload_n 1, 1) := by decide +kernel
theorem dX2_rowsOfCommon_23 : decode cX2_rowsOfCommon 23 = .ok (.iload_n 2, 1) := by decide +kernel
theorem dX2_rowsOfCommon_24 : decode cX2_rowsOfCommon 24 = .ok (.invokestatic 84, 3) := by decide +kernel
theorem dX2_rowsOfCommon_27 : decode cX2_rowsOfCommon 27 = .ok (.ifCond .eq 13, 3) := by decide +kernel
theorem dX2_rowsOfCommon_30 : decode cX2_rowsOfCommon 30 = .ok (.aload_n 0, 1) := by decide +kernel
theorem dX2_rowsOfCommon_31 : decode cX2_rowsOfCommon 31 = .ok (.getfield 18, 3) := by decide +kernel
theorem dX2_rowsOfCommon_34 : decode cX2_rowsOfCommon 34 = .ok (.iload 4, 2) := by decide +kernel
theorem dX2_rowsOfCommon_36 : decode cX2_rowsOfCommon 36 = .ok (.iaload, 1) := by decide +kernel
theorem dX2_rowsOfCommon_37 : decode cX2_rowsOfCommon 37 = .ok (.goto 4, 3) := by decide +kernel
theorem dX2_rowsOfCommon_40 : decode cX2_rowsOfCommon 40 = .ok (.iconst 0, 1) := by decide +kernel
theorem dX2_rowsOfCommon_41 : decode cX2_rowsOfCommon 41 = .ok (.iadd, 1) := by decide +kernel
theorem dX2_rowsOfCommon_42 : decode cX2_rowsOfCommon 42 = .ok (.istore_n 3, 1) := by decide +kernel
theorem dX2_rowsOfCommon_43 : decode cX2_rowsOfCommon 43 = .ok (.iinc 4 1, 3) := by decide +kernel
theorem dX2_rowsOfCommon_46 : decode cX2_rowsOfCommon 46 = .ok (.goto (-41), 3) := by decide +kernel
theorem dX2_rowsOfCommon_49 : decode cX2_rowsOfCommon 49 = .ok (.iload_n 3, 1) := by decide +kernel
theorem dX2_rowsOfCommon_50 : decode cX2_rowsOfCommon 50 = .ok (.ireturn, 1) := by decide +kernel
theorem dX2_guess_0 : decode cX2_guess 0 = .ok (.aload_n 0, 1) := by decide +kernel
theorem dX2_guess_1 : decode cX2_guess 1 = .ok (.iload_n 1, 1) := by decide +kernel
theorem dX2_guess_2 : decode cX2_guess 2 = .ok (.iload_n 2, 1) := by decide +kernel
theorem dX2_guess_3 : decode cX2_guess 3 = .ok (.invokevirtual 88, 3) := by decide +kernel
theorem dX2_guess_6 : decode cX2_guess 6 = .ok (.istore_n 3, 1) := by decide +kernel
theorem dX2_guess_7 : decode cX2_guess 7 = .ok (.iconst 0, 1) := by decide +kernel
theorem dX2_guess_8 : decode cX2_guess 8 = .ok (.istore 4, 2) := by decide +kernel
theorem dX2_guess_10 : decode cX2_guess 10 = .ok (.iload 4, 2) := by decide +kernel
theorem dX2_guess_12 : decode cX2_guess 12 = .ok (.aload_n 0, 1) := by decide +kernel
theorem dX2_guess_13 : decode cX2_guess 13 = .ok (.getfield 68, 3) := by decide +kernel
theorem dX2_guess_16 : decode cX2_guess 16 = .ok (.if_icmp .ge 81, 3) := by decide +kernel
theorem dX2_guess_19 : decode cX2_guess 19 = .ok (.aload_n 0, 1) := by decide +kernel
theorem dX2_guess_20 : decode cX2_guess 20 = .ok (.getfield 24, 3) := by decide +kernel
theorem dX2_guess_23 : decode cX2_guess 23 = .ok (.iload 4, 2) := by decide +kernel
theorem dX2_guess_25 : decode cX2_guess 25 = .ok (.iaload, 1) := by decide +kernel
theorem dX2_guess_26 : decode cX2_guess 26 = .ok (.aload_n 0, 1) := by decide +kernel
theorem dX2_guess_27 : decode cX2_guess 27 = .ok (.getfield 21, 3) := by decide +kernel
theorem dX2_guess_30 : decode cX2_guess 30 = .ok (.iload 4, 2) := by decide +kernel
theorem dX2_guess_32 : decode cX2_guess 32 = .ok (.iaload, 1) := by decide +kernel

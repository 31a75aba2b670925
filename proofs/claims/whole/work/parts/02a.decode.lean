theorem dX0_init_0 : decode cX0_init 0 = .ok (.aload_n 0, 1) := by decide +kernel
theorem dX0_init_1 : decode cX0_init 1 = .ok (.invokespecial 3, 3) := by decide +kernel
theorem dX0_init_4 : decode cX0_init 4 = .ok (.aload_n 0, 1) := by decide +kernel
theorem dX0_init_5 : decode cX0_init 5 = .ok (.new 9, 3) := by decide +kernel
theorem dX0_init_8 : decode cX0_init 8 = .ok (.dup, 1) := by decide +kernel
theorem dX0_init_9 : decode cX0_init 9 = .ok (.invokespecial 11, 3) := by decide +kernel
theorem dX0_init_12 : decode cX0_init 12 = .ok (.putfield 12, 3) := by decide +kernel
theorem dX0_init_15 : decode cX0_init 15 = .ok (.aload_n 0, 1) := by decide +kernel
theorem dX0_init_16 : decode cX0_init 16 = .ok (.new 9, 3) := by decide +kernel
theorem dX0_init_19 : decode cX0_init 19 = .ok (.dup, 1) := by decide +kernel
theorem dX0_init_20 : decode cX0_init 20 = .ok (.invokespecial 11, 3) := by decide +kernel
theorem dX0_init_23 : decode cX0_init 23 = .ok (.putfield 18, 3) := by decide +kernel
theorem dX0_init_26 : decode cX0_init 26 = .ok (.aload_n 0, 1) := by decide +kernel
theorem dX0_init_27 : decode cX0_init 27 = .ok (.new 21, 3) := by decide +kernel
theorem dX0_init_30 : decode cX0_init 30 = .ok (.dup, 1) := by decide +kernel
theorem dX0_init_31 : decode cX0_init 31 = .ok (.invokespecial 23, 3) := by decide +kernel
theorem dX0_init_34 : decode cX0_init 34 = .ok (.putfield 24, 3) := by decide +kernel
theorem dX0_init_37 : decode cX0_init 37 = .ok (.return_, 1) := by decide +kernel
theorem dX0_isMade_0 : decode cX0_isMade 0 = .ok (.aload_n 0, 1) := by decide +kernel
theorem dX0_isMade_1 : decode cX0_isMade 1 = .ok (.getfield 28, 3) := by decide +kernel
theorem dX0_isMade_4 : decode cX0_isMade 4 = .ok (.ifCond .le 7, 3) := by decide +kernel
theorem dX0_isMade_7 : decode cX0_isMade 7 = .ok (.iconst 1, 1) := by decide +kernel
theorem dX0_isMade_8 : decode cX0_isMade 8 = .ok (.goto 4, 3) := by decide +kernel
theorem dX0_isMade_11 : decode cX0_isMade 11 = .ok (.iconst 0, 1) := by decide +kernel
theorem dX0_isMade_12 : decode cX0_isMade 12 = .ok (.ireturn, 1) := by decide +kernel
theorem dX0_facts_0 : decode cX0_facts 0 = .ok (.iload_n 1, 1) := by decide +kernel
theorem dX0_facts_1 : decode cX0_facts 1 = .ok (.ifCond .ne 10, 3) := by decide +kernel
theorem dX0_facts_4 : decode cX0_facts 4 = .ok (.aload_n 0, 1) := by decide +kernel
theorem dX0_facts_5 : decode cX0_facts 5 = .ok (.getfield 12, 3) := by decide +kernel
theorem dX0_facts_8 : decode cX0_facts 8 = .ok (.goto 7, 3) := by decide +kernel
theorem dX0_facts_11 : decode cX0_facts 11 = .ok (.aload_n 0, 1) := by decide +kernel
theorem dX0_facts_12 : decode cX0_facts 12 = .ok (.getfield 18, 3) := by decide +kernel
theorem dX0_facts_15 : decode cX0_facts 15 = .ok (.areturn, 1) := by decide +kernel
theorem dX0_learn_0 : decode cX0_learn 0 = .ok (.aload_n 0, 1) := by decide +kernel
theorem dX0_learn_1 : decode cX0_learn 1 = .ok (.getfield 12, 3) := by decide +kernel
theorem dX0_learn_4 : decode cX0_learn 4 = .ok (.aload_n 1, 1) := by decide +kernel
theorem dX0_learn_5 : decode cX0_learn 5 = .ok (.iconst 0, 1) := by decide +kernel
theorem dX0_learn_6 : decode cX0_learn 6 = .ok (.iload_n 3, 1) := by decide +kernel
theorem dX0_learn_7 : decode cX0_learn 7 = .ok (.iload_n 2, 1) := by decide +kernel
theorem dX0_learn_8 : decode cX0_learn 8 = .ok (.invokevirtual 32, 3) := by decide +kernel
theorem dX0_learn_11 : decode cX0_learn 11 = .ok (.aload_n 0, 1) := by decide +kernel
theorem dX0_learn_12 : decode cX0_learn 12 = .ok (.getfield 18, 3) := by decide +kernel
theorem dX0_learn_15 : decode cX0_learn 15 = .ok (.aload_n 1, 1) := by decide +kernel
theorem dX0_learn_16 : decode cX0_learn 16 = .ok (.iconst 1, 1) := by decide +kernel
theorem dX0_learn_17 : decode cX0_learn 17 = .ok (.iload_n 3, 1) := by decide +kernel
theorem dX0_learn_18 : decode cX0_learn 18 = .ok (.iload_n 2, 1) := by decide +kernel
theorem dX0_learn_19 : decode cX0_learn 19 = .ok (.invokevirtual 32, 3) := by decide +kernel
theorem dX0_learn_22 : decode cX0_learn 22 = .ok (.aload_n 0, 1) := by decide +kernel
theorem dX0_learn_23 : decode cX0_learn 23 = .ok (.getfield 24, 3) := by decide +kernel
theorem dX0_learn_26 : decode cX0_learn 26 = .ok (.aload_n 1, 1) := by decide +kernel
theorem dX0_learn_27 : decode cX0_learn 27 = .ok (.iload 4, 2) := by decide +kernel
theorem dX0_learn_29 : decode cX0_learn 29 = .ok (.invokevirtual 36, 3) := by decide +kernel
theorem dX0_learn_32 : decode cX0_learn 32 = .ok (.aload_n 0, 1) := by decide +kernel
theorem dX0_learn_33 : decode cX0_learn 33 = .ok (.aload_n 1, 1) := by decide +kernel
theorem dX0_learn_34 : decode cX0_learn 34 = .ok (.getfield 39, 3) := by decide +kernel
theorem dX0_learn_37 : decode cX0_learn 37 = .ok (.putfield 28, 3) := by decide +kernel
theorem dX0_learn_40 : decode cX0_learn 40 = .ok (.aload_n 0, 1) := by decide +kernel
theorem dX0_learn_41 : decode cX0_learn 41 = .ok (.iconst 0, 1) := by decide +kernel
theorem dX0_learn_42 : decode cX0_learn 42 = .ok (.putfield 44, 3) := by decide +kernel
theorem dX0_learn_45 : decode cX0_learn 45 = .ok (.return_, 1) := by decide +kernel
theorem dX0_noteChange_0 : decode cX0_noteChange 0 = .ok (.aload_n 0, 1) := by decide +kernel
theorem dX0_noteChange_1 : decode cX0_noteChange 1 = .ok (.invokevirtual 47, 3) := by decide +kernel
theorem dX0_noteChange_4 : decode cX0_noteChange 4 = .ok (.ifCond .eq 13, 3) := by decide +kernel
theorem dX0_noteChange_7 : decode cX0_noteChange 7 = .ok (.aload_n 0, 1) := by decide +kernel
theorem dX0_noteChange_8 : decode cX0_noteChange 8 = .ok (.dup, 1) := by decide +kernel
theorem dX0_noteChange_9 : decode cX0_noteChange 9 = .ok (.getfield 44, 3) := by decide +kernel
theorem dX0_noteChange_12 : decode cX0_noteChange 12 = .ok (.iconst 1, 1) := by decide +kernel
theorem dX0_noteChange_13 : decode cX0_noteChange 13 = .ok (.iadd, 1) := by decide +kernel
theorem dX0_noteChange_14 : decode cX0_noteChange 14 = .ok (.putfield 44, 3) := by decide +kernel
theorem dX0_noteChange_17 : decode cX0_noteChange 17 = .ok (.return_, 1) := by decide +kernel
theorem dX0_isStale_0 : decode cX0_isStale 0 = .ok (.bipush 100, 2) := by decide +kernel
theorem dX0_isStale_2 : decode cX0_isStale 2 = .ok (.aload_n 0, 1) := by decide +kernel
theorem dX0_isStale_3 : decode cX0_isStale 3 = .ok (.getfield 44, 3) := by decide +kernel
theorem dX0_isStale_6 : decode cX0_isStale 6 = .ok (.imul, 1) := by decide +kernel
theorem dX0_isStale_7 : decode cX0_isStale 7 = .ok (.iload_n 1, 1) := by decide +kernel
theorem dX0_isStale_8 : decode cX0_isStale 8 = .ok (.aload_n 0, 1) := by decide +kernel
theorem dX0_isStale_9 : decode cX0_isStale 9 = .ok (.getfield 28, 3) := by decide +kernel
theorem dX0_isStale_12 : decode cX0_isStale 12 = .ok (.imul, 1) := by decide +kernel
theorem dX0_isStale_13 : decode cX0_isStale 13 = .ok (.if_icmp .le 7, 3) := by decide +kernel
theorem dX0_isStale_16 : decode cX0_isStale 16 = .ok (.iconst 1, 1) := by decide +kernel
theorem dX0_isStale_17 : decode cX0_isStale 17 = .ok (.goto 4, 3) := by decide +kernel
theorem dX0_isStale_20 : decode cX0_isStale 20 = .ok (.iconst 0, 1) := by decide +kernel
theorem dX0_isStale_21 : decode cX0_isStale 21 = .ok (.ireturn, 1) := by decide +kernel
theorem dX0_guessBoth_0 : decode cX0_guessBoth 0 = .ok (.aload_n 0, 1) := by decide +kernel
theorem dX0_guessBoth_1 : decode cX0_guessBoth 1 = .ok (.getfield 24, 3) := by decide +kernel
theorem dX0_guessBoth_4 : decode cX0_guessBoth 4 = .ok (.iload_n 1, 1) := by decide +kernel
theorem dX0_guessBoth_5 : decode cX0_guessBoth 5 = .ok (.iload_n 2, 1) := by decide +kernel
theorem dX0_guessBoth_6 : decode cX0_guessBoth 6 = .ok (.iload_n 3, 1) := by decide +kernel
theorem dX0_guessBoth_7 : decode cX0_guessBoth 7 = .ok (.iload 4, 2) := by decide +kernel
theorem dX0_guessBoth_9 : decode cX0_guessBoth 9 = .ok (.invokevirtual 51, 3) := by decide +kernel
theorem dX0_guessBoth_12 : decode cX0_guessBoth 12 = .ok (.istore 5, 2) := by decide +kernel
theorem dX0_guessBoth_14 : decode cX0_guessBoth 14 = .ok (.aload_n 0, 1) := by decide +kernel
theorem dX0_guessBoth_15 : decode cX0_guessBoth 15 = .ok (.getfield 28, 3) := by decide +kernel
theorem dX0_guessBoth_18 : decode cX0_guessBoth 18 = .ok (.aload_n 0, 1) := by decide +kernel
theorem dX0_guessBoth_19 : decode cX0_guessBoth 19 = .ok (.getfield 24, 3) := by decide +kernel
theorem dX0_guessBoth_22 : decode cX0_guessBoth 22 = .ok (.iconst 0, 1) := by decide +kernel
theorem dX0_guessBoth_23 : decode cX0_guessBoth 23 = .ok (.bipush 99, 2) := by decide +kernel
theorem dX0_guessBoth_25 : decode cX0_guessBoth 25 = .ok (.iconst 0, 1) := by decide +kernel
theorem dX0_guessBoth_26 : decode cX0_guessBoth 26 = .ok (.bipush 99, 2) := by decide +kernel
theorem dX0_guessBoth_28 : decode cX0_guessBoth 28 = .ok (.invokevirtual 51, 3) := by decide +kernel
theorem dX0_guessBoth_31 : decode cX0_guessBoth 31 = .ok (.isub, 1) := by decide +kernel
theorem dX0_guessBoth_32 : decode cX0_guessBoth 32 = .ok (.istore 6, 2) := by decide +kernel
theorem dX0_guessBoth_34 : decode cX0_guessBoth 34 = .ok (.iload 6, 2) := by decide +kernel
theorem dX0_guessBoth_36 : decode cX0_guessBoth 36 = .ok (.ifCond .gt 6, 3) := by decide +kernel
theorem dX0_guessBoth_39 : decode cX0_guessBoth 39 = .ok (.iload 5, 2) := by decide +kernel
theorem dX0_guessBoth_41 : decode cX0_guessBoth 41 = .ok (.ireturn, 1) := by decide +kernel
theorem dX0_guessBoth_42 : decode cX0_guessBoth 42 = .ok (.aload_n 0, 1) := by decide +kernel
theorem dX0_guessBoth_43 : decode cX0_guessBoth 43 = .ok (.getfield 24, 3) := by decide +kernel
theorem dX0_guessBoth_46 : decode cX0_guessBoth 46 = .ok (.iload_n 1, 1) := by decide +kernel
theorem dX0_guessBoth_47 : decode cX0_guessBoth 47 = .ok (.iload_n 2, 1) := by decide +kernel
theorem dX0_guessBoth_48 : decode cX0_guessBoth 48 = .ok (.iconst 0, 1) := by decide +kernel
theorem dX0_guessBoth_49 : decode cX0_guessBoth 49 = .ok (.bipush 99, 2) := by decide +kernel
theorem dX0_guessBoth_51 : decode cX0_guessBoth 51 = .ok (.invokevirtual 51, 3) := by decide +kernel
theorem dX0_guessBoth_54 : decode cX0_guessBoth 54 = .ok (.istore 7, 2) := by decide +kernel
theorem dX0_guessBoth_56 : decode cX0_guessBoth 56 = .ok (.aload_n 0, 1) := by decide +kernel
theorem dX0_guessBoth_57 : decode cX0_guessBoth 57 = .ok (.getfield 24, 3) := by decide +kernel
theorem dX0_guessBoth_60 : decode cX0_guessBoth 60 = .ok (.iconst 0, 1) := by decide +kernel
theorem dX0_guessBoth_61 : decode cX0_guessBoth 61 = .ok (.bipush 99, 2) := by decide +kernel
theorem dX0_guessBoth_63 : decode cX0_guessBoth 63 = .ok (.iload_n 3, 1) := by decide +kernel
theorem dX0_guessBoth_64 : decode cX0_guessBoth 64 = .ok (.iload 4, 2) := by decide +kernel
theorem dX0_guessBoth_66 : decode cX0_guessBoth 66 = .ok (.invokevirtual 51, 3) := by decide +kernel
theorem dX0_guessBoth_69 : decode cX0_guessBoth 69 = .ok (.istore 8, 2) := by decide +kernel
theorem dX0_guessBoth_71 : decode cX0_guessBoth 71 = .ok (.aload_n 0, 1) := by decide +kernel
theorem dX0_guessBoth_72 : decode cX0_guessBoth 72 = .ok (.getfield 12, 3) := by decide +kernel
theorem dX0_guessBoth_75 : decode cX0_guessBoth 75 = .ok (.iload_n 1, 1) := by decide +kernel
theorem dX0_guessBoth_76 : decode cX0_guessBoth 76 = .ok (.iload_n 2, 1) := by decide +kernel
theorem dX0_guessBoth_77 : decode cX0_guessBoth 77 = .ok (.invokevirtual 55, 3) := by decide +kernel
theorem dX0_guessBoth_80 : decode cX0_guessBoth 80 = .ok (.iload 7, 2) := by decide +kernel
theorem dX0_guessBoth_82 : decode cX0_guessBoth 82 = .ok (.isub, 1) := by decide +kernel
theorem dX0_guessBoth_83 : decode cX0_guessBoth 83 = .ok (.iconst 0, 1) := by decide +kernel
theorem dX0_guessBoth_84 : decode cX0_guessBoth 84 = .ok (.invokestatic 59, 3) := by decide +kernel
theorem dX0_guessBoth_87 : decode cX0_guessBoth 87 = .ok (.istore 9, 2) := by decide +kernel
theorem dX0_guessBoth_89 : decode cX0_guessBoth 89 = .ok (.aload_n 0, 1) := by decide +kernel
theorem dX0_guessBoth_90 : decode cX0_guessBoth 90 = .ok (.getfield 18, 3) := by decide +kernel
theorem dX0_guessBoth_93 : decode cX0_guessBoth 93 = .ok (.iload_n 3, 1) := by decide +kernel
theorem dX0_guessBoth_94 : decode cX0_guessBoth 94 = .ok (.iload 4, 2) := by decide +kernel
theorem dX0_guessBoth_96 : decode cX0_guessBoth 96 = .ok (.invokevirtual 55, 3) := by decide +kernel
theorem dX0_guessBoth_99 : decode cX0_guessBoth 99 = .ok (.iload 8, 2) := by decide +kernel
theorem dX0_guessBoth_101 : decode cX0_guessBoth 101 = .ok (.isub, 1) := by decide +kernel
theorem dX0_guessBoth_102 : decode cX0_guessBoth 102 = .ok (.iconst 0, 1) := by decide +kernel
theorem dX0_guessBoth_103 : decode cX0_guessBoth 103 = .ok (.invokestatic 59, 3) := by decide +kernel
theorem dX0_guessBoth_106 : decode cX0_guessBoth 106 = .ok (.istore 10, 2) := by decide +kernel
theorem dX0_guessBoth_108 : decode cX0_guessBoth 108 = .ok (.iload 5, 2) := by decide +kernel
theorem dX0_guessBoth_110 : decode cX0_guessBoth 110 = .ok (.iload 9, 2) := by decide +kernel
theorem dX0_guessBoth_112 : decode cX0_guessBoth 112 = .ok (.iload 10, 2) := by decide +kernel
theorem dX0_guessBoth_114 : decode cX0_guessBoth 114 = .ok (.imul, 1) := by decide +kernel
theorem dX0_guessBoth_115 : decode cX0_guessBoth 115 = .ok (.iload 6, 2) := by decide +kernel
theorem dX0_guessBoth_117 : decode cX0_guessBoth 117 = .ok (.idiv, 1) := by decide +kernel
theorem dX0_guessBoth_118 : decode cX0_guessBoth 118 = .ok (.iadd, 1) := by decide +kernel
theorem dX0_guessBoth_119 : decode cX0_guessBoth 119 = .ok (.ireturn, 1) := by decide +kernel
theorem dX0_copyFrom_0 : decode cX0_copyFrom 0 = .ok (.aload_n 0, 1) := by decide +kernel
theorem dX0_copyFrom_1 : decode cX0_copyFrom 1 = .ok (.getfield 12, 3) := by decide +kernel
theorem dX0_copyFrom_4 : decode cX0_copyFrom 4 = .ok (.aload_n 1, 1) := by decide +kernel
theorem dX0_copyFrom_5 : decode cX0_copyFrom 5 = .ok (.getfield 12, 3) := by decide +kernel
theorem dX0_copyFrom_8 : decode cX0_copyFrom 8 = .ok (.invokevirtual 64, 3) := by decide +kernel
theorem dX0_copyFrom_11 : decode cX0_copyFrom 11 = .ok (.aload_n 0, 1) := by decide +kernel
theorem dX0_copyFrom_12 : decode cX0_copyFrom 12 = .ok (.getfield 18, 3) := by decide +kernel
theorem dX0_copyFrom_15 : decode cX0_copyFrom 15 = .ok (.aload_n 1, 1) := by decide +kernel
theorem dX0_copyFrom_16 : decode cX0_copyFrom 16 = .ok (.getfield 18, 3) := by decide +kernel
theorem dX0_copyFrom_19 : decode cX0_copyFrom 19 = .ok (.invokevirtual 64, 3) := by decide +kernel
theorem dX0_copyFrom_22 : decode cX0_copyFrom 22 = .ok (.aload_n 0, 1) := by decide +kernel
theorem dX0_copyFrom_23 : decode cX0_copyFrom 23 = .ok (.getfield 24, 3) := by decide +kernel
theorem dX0_copyFrom_26 : decode cX0_copyFrom 26 = .ok (.aload_n 1, 1) := by decide +kernel
theorem dX0_copyFrom_27 : decode cX0_copyFrom 27 = .ok (.getfield 24, 3) := by decide +kernel
theorem dX0_copyFrom_30 : decode cX0_copyFrom 30 = .ok (.invokevirtual 68, 3) := by decide +kernel
theorem dX0_copyFrom_33 : decode cX0_copyFrom 33 = .ok (.aload_n 0, 1) := by decide +kernel
theorem dX0_copyFrom_34 : decode cX0_copyFrom 34 = .ok (.aload_n 1, 1) := by decide +kernel
theorem dX0_copyFrom_35 : decode cX0_copyFrom 35 = .ok (.getfield 28, 3) := by decide +kernel
theorem dX0_copyFrom_38 : decode cX0_copyFrom 38 = .ok (.putfield 28, 3) := by decide +kernel
theorem dX0_copyFrom_41 : decode cX0_copyFrom 41 = .ok (.aload_n 0, 1) := by decide +kernel
theorem dX0_copyFrom_42 : decode cX0_copyFrom 42 = .ok (.aload_n 1, 1) := by decide +kernel
theorem dX0_copyFrom_43 : decode cX0_copyFrom 43 = .ok (.getfield 44, 3) := by decide +kernel
theorem dX0_copyFrom_46 : decode cX0_copyFrom 46 = .ok (.putfield 44, 3) := by decide +kernel
theorem dX0_copyFrom_49 : decode cX0_copyFrom 49 = .ok (.return_, 1) := by decide +kernel
theorem dX1_ofFloat_0 : decode cX1_ofFloat 0 = .ok (.fload_n 0, 1) := by decide +kernel
theorem dX1_ofFloat_1 : decode cX1_ofFloat 1 = .ok (.f2d, 1) := by decide +kernel
theorem dX1_ofFloat_2 : decode cX1_ofFloat 2 = .ok (.bipush 127, 2) := by decide +kernel
theorem dX1_ofFloat_4 : decode cX1_ofFloat 4 = .ok (.bipush 23, 2) := by decide +kernel
theorem dX1_ofFloat_6 : decode cX1_ofFloat 6 = .ok (.invokestatic 7, 3) := by decide +kernel
theorem dX1_ofFloat_9 : decode cX1_ofFloat 9 = .ok (.l2i, 1) := by decide +kernel
theorem dX1_ofFloat_10 : decode cX1_ofFloat 10 = .ok (.ireturn, 1) := by decide +kernel
theorem dX1_ofDouble_0 : decode cX1_ofDouble 0 = .ok (.dload_n 0, 1) := by decide +kernel
theorem dX1_ofDouble_1 : decode cX1_ofDouble 1 = .ok (.sipush 1023, 3) := by decide +kernel
theorem dX1_ofDouble_4 : decode cX1_ofDouble 4 = .ok (.bipush 52, 2) := by decide +kernel
theorem dX1_ofDouble_6 : decode cX1_ofDouble 6 = .ok (.invokestatic 7, 3) := by decide +kernel
theorem dX1_ofDouble_9 : decode cX1_ofDouble 9 = .ok (.lreturn, 1) := by decide +kernel
theorem dX1_bits_0 : decode cX1_bits 0 = .ok (.dload_n 0, 1) := by decide +kernel
theorem dX1_bits_1 : decode cX1_bits 1 = .ok (.dconst 0, 1) := by decide +kernel
theorem dX1_bits_2 : decode cX1_bits 2 = .ok (.dcmp .g, 1) := by decide +kernel
theorem dX1_bits_3 : decode cX1_bits 3 = .ok (.ifCond .gt 5, 3) := by decide +kernel
theorem dX1_bits_6 : decode cX1_bits 6 = .ok (.lconst 0, 1) := by decide +kernel
theorem dX1_bits_7 : decode cX1_bits 7 = .ok (.lreturn, 1) := by decide +kernel
theorem dX1_bits_8 : decode cX1_bits 8 = .ok (.iload_n 2, 1) := by decide +kernel
theorem dX1_bits_9 : decode cX1_bits 9 = .ok (.i2l, 1) := by decide +kernel
theorem dX1_bits_10 : decode cX1_bits 10 = .ok (.lstore 4, 2) := by decide +kernel
theorem dX1_bits_12 : decode cX1_bits 12 = .ok (.dload_n 0, 1) := by decide +kernel
theorem dX1_bits_13 : decode cX1_bits 13 = .ok (.dstore 6, 2) := by decide +kernel
theorem dX1_bits_15 : decode cX1_bits 15 = .ok (.iconst 0, 1) := by decide +kernel
theorem dX1_bits_16 : decode cX1_bits 16 = .ok (.istore 8, 2) := by decide +kernel
theorem dX1_bits_18 : decode cX1_bits 18 = .ok (.iload 8, 2) := by decide +kernel
theorem dX1_bits_20 : decode cX1_bits 20 = .ok (.bipush 64, 2) := by decide +kernel
theorem dX1_bits_22 : decode cX1_bits 22 = .ok (.if_icmp .ge 30, 3) := by decide +kernel
theorem dX1_bits_25 : decode cX1_bits 25 = .ok (.dload 6, 2) := by decide +kernel
theorem dX1_bits_27 : decode cX1_bits 27 = .ok (.dconst 1, 1) := by decide +kernel
theorem dX1_bits_28 : decode cX1_bits 28 = .ok (.dcmp .g, 1) := by decide +kernel
theorem dX1_bits_29 : decode cX1_bits 29 = .ok (.ifCond .ge 23, 3) := by decide +kernel
theorem dX1_bits_32 : decode cX1_bits 32 = .ok (.dload 6, 2) := by decide +kernel
theorem dX1_bits_34 : decode cX1_bits 34 = .ok (.ldc2_w 13, 3) := by decide +kernel
theorem dX1_bits_37 : decode cX1_bits 37 = .ok (.dmul, 1) := by decide +kernel
theorem dX1_bits_38 : decode cX1_bits 38 = .ok (.dstore 6, 2) := by decide +kernel
theorem dX1_bits_40 : decode cX1_bits 40 = .ok (.lload 4, 2) := by decide +kernel
theorem dX1_bits_42 : decode cX1_bits 42 = .ok (.lconst 1, 1) := by decide +kernel
theorem dX1_bits_43 : decode cX1_bits 43 = .ok (.lsub, 1) := by decide +kernel
theorem dX1_bits_44 : decode cX1_bits 44 = .ok (.lstore 4, 2) := by decide +kernel
theorem dX1_bits_46 : decode cX1_bits 46 = .ok (.iinc 8 1, 3) := by decide +kernel
theorem dX1_bits_49 : decode cX1_bits 49 = .ok (.goto (-31), 3) := by decide +kernel
theorem dX1_bits_52 : decode cX1_bits 52 = .ok (.iconst 0, 1) := by decide +kernel
theorem dX1_bits_53 : decode cX1_bits 53 = .ok (.istore 8, 2) := by decide +kernel
theorem dX1_bits_55 : decode cX1_bits 55 = .ok (.iload 8, 2) := by decide +kernel
theorem dX1_bits_57 : decode cX1_bits 57 = .ok (.bipush 64, 2) := by decide +kernel
theorem dX1_bits_59 : decode cX1_bits 59 = .ok (.if_icmp .ge 32, 3) := by decide +kernel
theorem dX1_bits_62 : decode cX1_bits 62 = .ok (.dload 6, 2) := by decide +kernel
theorem dX1_bits_64 : decode cX1_bits 64 = .ok (.ldc2_w 13, 3) := by decide +kernel
theorem dX1_bits_67 : decode cX1_bits 67 = .ok (.dcmp .l, 1) := by decide +kernel
theorem dX1_bits_68 : decode cX1_bits 68 = .ok (.ifCond .lt 23, 3) := by decide +kernel
theorem dX1_bits_71 : decode cX1_bits 71 = .ok (.dload 6, 2) := by decide +kernel
theorem dX1_bits_73 : decode cX1_bits 73 = .ok (.ldc2_w 13, 3) := by decide +kernel
theorem dX1_bits_76 : decode cX1_bits 76 = .ok (.ddiv, 1) := by decide +kernel
theorem dX1_bits_77 : decode cX1_bits 77 = .ok (.dstore 6, 2) := by decide +kernel
theorem dX1_bits_79 : decode cX1_bits 79 = .ok (.lload 4, 2) := by decide +kernel
theorem dX1_bits_81 : decode cX1_bits 81 = .ok (.lconst 1, 1) := by decide +kernel
theorem dX1_bits_82 : decode cX1_bits 82 = .ok (.ladd, 1) := by decide +kernel
theorem dX1_bits_83 : decode cX1_bits 83 = .ok (.lstore 4, 2) := by decide +kernel
theorem dX1_bits_85 : decode cX1_bits 85 = .ok (.iinc 8 1, 3) := by decide +kernel
theorem dX1_bits_88 : decode cX1_bits 88 = .ok (.goto (-33), 3) := by decide +kernel
theorem dX1_bits_91 : decode cX1_bits 91 = .ok (.dload 6, 2) := by decide +kernel
theorem dX1_bits_93 : decode cX1_bits 93 = .ok (.dconst 1, 1) := by decide +kernel
theorem dX1_bits_94 : decode cX1_bits 94 = .ok (.dsub, 1) := by decide +kernel
theorem dX1_bits_95 : decode cX1_bits 95 = .ok (.lconst 1, 1) := by decide +kernel
theorem dX1_bits_96 : decode cX1_bits 96 = .ok (.iload_n 3, 1) := by decide +kernel
theorem dX1_bits_97 : decode cX1_bits 97 = .ok (.lshl, 1) := by decide +kernel
theorem dX1_bits_98 : decode cX1_bits 98 = .ok (.l2d, 1) := by decide +kernel
theorem dX1_bits_99 : decode cX1_bits 99 = .ok (.dmul, 1) := by decide +kernel
theorem dX1_bits_100 : decode cX1_bits 100 = .ok (.dstore 8, 2) := by decide +kernel
theorem dX1_bits_102 : decode cX1_bits 102 = .ok (.lload 4, 2) := by decide +kernel
theorem dX1_bits_104 : decode cX1_bits 104 = .ok (.iload_n 3, 1) := by decide +kernel
theorem dX1_bits_105 : decode cX1_bits 105 = .ok (.lshl, 1) := by decide +kernel
theorem dX1_bits_106 : decode cX1_bits 106 = .ok (.dload 8, 2) := by decide +kernel
theorem dX1_bits_108 : decode cX1_bits 108 = .ok (.d2l, 1) := by decide +kernel
theorem dX1_bits_109 : decode cX1_bits 109 = .ok (.ladd, 1) := by decide +kernel
theorem dX1_bits_110 : decode cX1_bits 110 = .ok (.lreturn, 1) := by decide +kernel
theorem dX2_init_0 : decode cX2_init 0 = .ok (.aload_n 0, 1) := by decide +kernel
theorem dX2_init_1 : decode cX2_init 1 = .ok (.invokespecial 3, 3) := by decide +kernel
theorem dX2_init_4 : decode cX2_init 4 = .ok (.aload_n 0, 1) := by decide +kernel
theorem dX2_init_5 : decode cX2_init 5 = .ok (.bipush 100, 2) := by decide +kernel
theorem dX2_init_7 : decode cX2_init 7 = .ok (.newarray .int, 2) := by decide +kernel
theorem dX2_init_9 : decode cX2_init 9 = .ok (.putfield 9, 3) := by decide +kernel
theorem dX2_init_12 : decode cX2_init 12 = .ok (.aload_n 0, 1) := by decide +kernel
theorem dX2_init_13 : decode cX2_init 13 = .ok (.bipush 6, 2) := by decide +kernel
theorem dX2_init_15 : decode cX2_init 15 = .ok (.newarray .int, 2) := by decide +kernel
theorem dX2_init_17 : decode cX2_init 17 = .ok (.putfield 15, 3) := by decide +kernel
theorem dX2_init_20 : decode cX2_init 20 = .ok (.aload_n 0, 1) := by decide +kernel
theorem dX2_init_21 : decode cX2_init 21 = .ok (.bipush 6, 2) := by decide +kernel
theorem dX2_init_23 : decode cX2_init 23 = .ok (.newarray .int, 2) := by decide +kernel
theorem dX2_init_25 : decode cX2_init 25 = .ok (.putfield 18, 3) := by decide +kernel
theorem dX2_init_28 : decode cX2_init 28 = .ok (.aload_n 0, 1) := by decide +kernel
theorem dX2_init_29 : decode cX2_init 29 = .ok (.bipush 10, 2) := by decide +kernel
theorem dX2_init_31 : decode cX2_init 31 = .ok (.newarray .int, 2) := by decide +kernel
theorem dX2_init_33 : decode cX2_init 33 = .ok (.putfield 21, 3) := by decide +kernel
theorem dX2_init_36 : decode cX2_init 36 = .ok (.aload_n 0, 1) := by decide +kernel
theorem dX2_init_37 : decode cX2_init 37 = .ok (.bipush 10, 2) := by decide +kernel
theorem dX2_init_39 : decode cX2_init 39 = .ok (.newarray .int, 2) := by decide +kernel
theorem dX2_init_41 : decode cX2_init 41 = .ok (.putfield 24, 3) := by decide +kernel
theorem dX2_init_44 : decode cX2_init 44 = .ok (.aload_n 0, 1) := by decide +kernel
theorem dX2_init_45 : decode cX2_init 45 = .ok (.bipush 10, 2) := by decide +kernel
theorem dX2_init_47 : decode cX2_init 47 = .ok (.newarray .int, 2) := by decide +kernel
theorem dX2_init_49 : decode cX2_init 49 = .ok (.putfield 27, 3) := by decide +kernel
theorem dX2_init_52 : decode cX2_init 52 = .ok (.aload_n 0, 1) := by decide +kernel
theorem dX2_init_53 : decode cX2_init 53 = .ok (.bipush 10, 2) := by decide +kernel
theorem dX2_init_55 : decode cX2_init 55 = .ok (.newarray .int, 2) := by decide +kernel
theorem dX2_init_57 : decode cX2_init 57 = .ok (.putfield 30, 3) := by decide +kernel
theorem dX2_init_60 : decode cX2_init 60 = .ok (.return_, 1) := by decide +kernel
theorem dX2_learn_0 : decode cX2_learn 0 = .ok (.aload_n 0, 1) := by decide +kernel
theorem dX2_learn_1 : decode cX2_learn 1 = .ok (.aload_n 1, 1) := by decide +kernel
theorem dX2_learn_2 : decode cX2_learn 2 = .ok (.iload_n 2, 1) := by decide +kernel
theorem dX2_learn_3 : decode cX2_learn 3 = .ok (.invokevirtual 33, 3) := by decide +kernel
theorem dX2_learn_6 : decode cX2_learn 6 = .ok (.aload_n 0, 1) := by decide +kernel
theorem dX2_learn_7 : decode cX2_learn 7 = .ok (.iload_n 3, 1) := by decide +kernel
theorem dX2_learn_8 : decode cX2_learn 8 = .ok (.invokevirtual 37, 3) := by decide +kernel
theorem dX2_learn_11 : decode cX2_learn 11 = .ok (.aload_n 0, 1) := by decide +kernel
theorem dX2_learn_12 : decode cX2_learn 12 = .ok (.aload_n 1, 1) := by decide +kernel
theorem dX2_learn_13 : decode cX2_learn 13 = .ok (.getfield 41, 3) := by decide +kernel
theorem dX2_learn_16 : decode cX2_learn 16 = .ok (.iload 4, 2) := by decide +kernel
theorem dX2_learn_18 : decode cX2_learn 18 = .ok (.invokevirtual 47, 3) := by decide +kernel
theorem dX2_learn_21 : decode cX2_learn 21 = .ok (.return_, 1) := by decide +kernel
theorem dX2_countValues_0 : decode cX2_countValues 0 = .ok (.iconst 0, 1) := by decide +kernel
theorem dX2_countValues_1 : decode cX2_countValues 1 = .ok (.istore_n 3, 1) := by decide +kernel
theorem dX2_countValues_2 : decode cX2_countValues 2 = .ok (.iload_n 3, 1) := by decide +kernel
theorem dX2_countValues_3 : decode cX2_countValues 3 = .ok (.bipush 100, 2) := by decide +kernel
theorem dX2_countValues_5 : decode cX2_countValues 5 = .ok (.if_icmp .ge 16, 3) := by decide +kernel
theorem dX2_countValues_8 : decode cX2_countValues 8 = .ok (.aload_n 0, 1) := by decide +kernel
theorem dX2_countValues_9 : decode cX2_countValues 9 = .ok (.getfield 9, 3) := by decide +kernel
theorem dX2_countValues_12 : decode cX2_countValues 12 = .ok (.iload_n 3, 1) := by decide +kernel
theorem dX2_countValues_13 : decode cX2_countValues 13 = .ok (.iconst 0, 1) := by decide +kernel
theorem dX2_countValues_14 : decode cX2_countValues 14 = .ok (.iastore, 1) := by decide +kernel
theorem dX2_countValues_15 : decode cX2_countValues 15 = .ok (.iinc 3 1, 3) := by decide +kernel
theorem dX2_countValues_18 : decode cX2_countValues 18 = .ok (.goto (-16), 3) := by decide +kernel
theorem dX2_countValues_21 : decode cX2_countValues 21 = .ok (.iconst 0, 1) := by decide +kernel
theorem dX2_countValues_22 : decode cX2_countValues 22 = .ok (.istore_n 3, 1) := by decide +kernel
theorem dX2_countValues_23 : decode cX2_countValues 23 = .ok (.iload_n 3, 1) := by decide +kernel
theorem dX2_countValues_24 : decode cX2_countValues 24 = .ok (.aload_n 1, 1) := by decide +kernel
theorem dX2_countValues_25 : decode cX2_countValues 25 = .ok (.getfield 41, 3) := by decide +kernel
theorem dX2_countValues_28 : decode cX2_countValues 28 = .ok (.if_icmp .ge 40, 3) := by decide +kernel
theorem dX2_countValues_31 : decode cX2_countValues 31 = .ok (.aload_n 1, 1) := by decide +kernel
theorem dX2_countValues_32 : decode cX2_countValues 32 = .ok (.iload_n 3, 1) := by decide +kernel
theorem dX2_countValues_33 : decode cX2_countValues 33 = .ok (.iload_n 2, 1) := by decide +kernel
theorem dX2_countValues_34 : decode cX2_countValues 34 = .ok (.invokevirtual 51, 3) := by decide +kernel
theorem dX2_countValues_37 : decode cX2_countValues 37 = .ok (.istore 4, 2) := by decide +kernel
theorem dX2_countValues_39 : decode cX2_countValues 39 = .ok (.iload 4, 2) := by decide +kernel
theorem dX2_countValues_41 : decode cX2_countValues 41 = .ok (.ifCond .lt 21, 3) := by decide +kernel
theorem dX2_countValues_44 : decode cX2_countValues 44 = .ok (.iload 4, 2) := by decide +kernel
theorem dX2_countValues_46 : decode cX2_countValues 46 = .ok (.bipush 100, 2) := by decide +kernel
theorem dX2_countValues_48 : decode cX2_countValues 48 = .ok (.if_icmp .ge 14, 3) := by decide +kernel
theorem dX2_countValues_51 : decode cX2_countValues 51 = .ok (.aload_n 0, 1) := by decide +kernel
theorem dX2_countValues_52 : decode cX2_countValues 52 = .ok (.getfield 9, 3) := by decide +kernel
theorem dX2_countValues_55 : decode cX2_countValues 55 = .ok (.iload 4, 2) := by decide +kernel
theorem dX2_countValues_57 : decode cX2_countValues 57 = .ok (.dup2, 1) := by decide +kernel
theorem dX2_countValues_58 : decode cX2_countValues 58 = .ok (.iaload, 1) := by decide +kernel
theorem dX2_countValues_59 : decode cX2_countValues 59 = .ok (.iconst 1, 1) := by decide +kernel
theorem dX2_countValues_60 : decode cX2_countValues 60 = .ok (.iadd, 1) := by decide +kernel
theorem dX2_countValues_61 : decode cX2_countValues 61 = .ok (.iastore, 1) := by decide +kernel
theorem dX2_countValues_62 : decode cX2_countValues 62 = .ok (.iinc 3 1, 3) := by decide +kernel
theorem dX2_countValues_65 : decode cX2_countValues 65 = .ok (.goto (-42), 3) := by decide +kernel
theorem dX2_countValues_68 : decode cX2_countValues 68 = .ok (.return_, 1) := by decide +kernel
theorem dX2_chooseCommon_0 : decode cX2_chooseCommon 0 = .ok (.aload_n 0, 1) := by decide +kernel
theorem dX2_chooseCommon_1 : decode cX2_chooseCommon 1 = .ok (.iconst 0, 1) := by decide +kernel
theorem dX2_chooseCommon_2 : decode cX2_chooseCommon 2 = .ok (.putfield 55, 3) := by decide +kernel
theorem dX2_chooseCommon_5 : decode cX2_chooseCommon 5 = .ok (.ldc 58, 2) := by decide +kernel
theorem dX2_chooseCommon_7 : decode cX2_chooseCommon 7 = .ok (.istore_n 2, 1) := by decide +kernel
theorem dX2_chooseCommon_8 : decode cX2_chooseCommon 8 = .ok (.iconst 0, 1) := by decide +kernel
theorem dX2_chooseCommon_9 : decode cX2_chooseCommon 9 = .ok (.istore_n 3, 1) := by decide +kernel
theorem dX2_chooseCommon_10 : decode cX2_chooseCommon 10 = .ok (.iload_n 3, 1) := by decide +kernel
theorem dX2_chooseCommon_11 : decode cX2_chooseCommon 11 = .ok (.iload_n 1, 1) := by decide +kernel
theorem dX2_chooseCommon_12 : decode cX2_chooseCommon 12 = .ok (.if_icmp .ge 59, 3) := by decide +kernel
theorem dX2_chooseCommon_15 : decode cX2_chooseCommon 15 = .ok (.iload_n 3, 1) := by decide +kernel
theorem dX2_chooseCommon_16 : decode cX2_chooseCommon 16 = .ok (.bipush 6, 2) := by decide +kernel
theorem dX2_chooseCommon_18 : decode cX2_chooseCommon 18 = .ok (.if_icmp .ge 53, 3) := by decide +kernel
theorem dX2_chooseCommon_21 : decode cX2_chooseCommon 21 = .ok (.aload_n 0, 1) := by decide +kernel
theorem dX2_chooseCommon_22 : decode cX2_chooseCommon 22 = .ok (.iload_n 2, 1) := by decide +kernel
theorem dX2_chooseCommon_23 : decode cX2_chooseCommon 23 = .ok (.invokevirtual 59, 3) := by decide +kernel
theorem dX2_chooseCommon_26 : decode cX2_chooseCommon 26 = .ok (.istore_n 2, 1) := by decide +kernel
theorem dX2_chooseCommon_27 : decode cX2_chooseCommon 27 = .ok (.iload_n 2, 1) := by decide +kernel
theorem dX2_chooseCommon_28 : decode cX2_chooseCommon 28 = .ok (.ifCond .ne 4, 3) := by decide +kernel
theorem dX2_chooseCommon_31 : decode cX2_chooseCommon 31 = .ok (.return_, 1) := by decide +kernel
theorem dX2_chooseCommon_32 : decode cX2_chooseCommon 32 = .ok (.aload_n 0, 1) := by decide +kernel
theorem dX2_chooseCommon_33 : decode cX2_chooseCommon 33 = .ok (.getfield 15, 3) := by decide +kernel
theorem dX2_chooseCommon_36 : decode cX2_chooseCommon 36 = .ok (.iload_n 3, 1) := by decide +kernel
theorem dX2_chooseCommon_37 : decode cX2_chooseCommon 37 = .ok (.bipush 99, 2) := by decide +kernel
theorem dX2_chooseCommon_39 : decode cX2_chooseCommon 39 = .ok (.iload_n 2, 1) := by decide +kernel
theorem dX2_chooseCommon_40 : decode cX2_chooseCommon 40 = .ok (.bipush 100, 2) := by decide +kernel
theorem dX2_chooseCommon_42 : decode cX2_chooseCommon 42 = .ok (.irem, 1) := by decide +kernel
theorem dX2_chooseCommon_43 : decode cX2_chooseCommon 43 = .ok (.isub, 1) := by decide +kernel
theorem dX2_chooseCommon_44 : decode cX2_chooseCommon 44 = .ok (.iastore, 1) := by decide +kernel
theorem dX2_chooseCommon_45 : decode cX2_chooseCommon 45 = .ok (.aload_n 0, 1) := by decide +kernel
theorem dX2_chooseCommon_46 : decode cX2_chooseCommon 46 = .ok (.getfield 18, 3) := by decide +kernel
theorem dX2_chooseCommon_49 : decode cX2_chooseCommon 49 = .ok (.iload_n 3, 1) := by decide +kernel
theorem dX2_chooseCommon_50 : decode cX2_chooseCommon 50 = .ok (.iload_n 2, 1) := by decide +kernel
theorem dX2_chooseCommon_51 : decode cX2_chooseCommon 51 = .ok (.bipush 100, 2) := by decide +kernel
theorem dX2_chooseCommon_53 : decode cX2_chooseCommon 53 = .ok (.idiv, 1) := by decide +kernel
theorem dX2_chooseCommon_54 : decode cX2_chooseCommon 54 = .ok (.iastore, 1) := by decide +kernel
theorem dX2_chooseCommon_55 : decode cX2_chooseCommon 55 = .ok (.aload_n 0, 1) := by decide +kernel
theorem dX2_chooseCommon_56 : decode cX2_chooseCommon 56 = .ok (.dup, 1) := by decide +kernel
theorem dX2_chooseCommon_57 : decode cX2_chooseCommon 57 = .ok (.getfield 55, 3) := by decide +kernel
theorem dX2_chooseCommon_60 : decode cX2_chooseCommon 60 = .ok (.iconst 1, 1) := by decide +kernel
theorem dX2_chooseCommon_61 : decode cX2_chooseCommon 61 = .ok (.iadd, 1) := by decide +kernel
theorem dX2_chooseCommon_62 : decode cX2_chooseCommon 62 = .ok (.putfield 55, 3) := by decide +kernel
theorem dX2_chooseCommon_65 : decode cX2_chooseCommon 65 = .ok (.iinc 3 1, 3) := by decide +kernel
theorem dX2_chooseCommon_68 : decode cX2_chooseCommon 68 = .ok (.goto (-58), 3) := by decide +kernel
theorem dX2_chooseCommon_71 : decode cX2_chooseCommon 71 = .ok (.return_, 1) := by decide +kernel
theorem dX2_nextRank_0 : decode cX2_nextRank 0 = .ok (.iconst 0, 1) := by decide +kernel
theorem dX2_nextRank_1 : decode cX2_nextRank 1 = .ok (.istore_n 2, 1) := by decide +kernel
theorem dX2_nextRank_2 : decode cX2_nextRank 2 = .ok (.iconst 0, 1) := by decide +kernel
theorem dX2_nextRank_3 : decode cX2_nextRank 3 = .ok (.istore_n 3, 1) := by decide +kernel
theorem dX2_nextRank_4 : decode cX2_nextRank 4 = .ok (.iload_n 3, 1) := by decide +kernel
theorem dX2_nextRank_5 : decode cX2_nextRank 5 = .ok (.bipush 100, 2) := by decide +kernel
theorem dX2_nextRank_7 : decode cX2_nextRank 7 = .ok (.if_icmp .ge 50, 3) := by decide +kernel
theorem dX2_nextRank_10 : decode cX2_nextRank 10 = .ok (.aload_n 0, 1) := by decide +kernel
theorem dX2_nextRank_11 : decode cX2_nextRank 11 = .ok (.getfield 9, 3) := by decide +kernel
theorem dX2_nextRank_14 : decode cX2_nextRank 14 = .ok (.iload_n 3, 1) := by decide +kernel
theorem dX2_nextRank_15 : decode cX2_nextRank 15 = .ok (.iaload, 1) := by decide +kernel
theorem dX2_nextRank_16 : decode cX2_nextRank 16 = .ok (.bipush 100, 2) := by decide +kernel
theorem dX2_nextRank_18 : decode cX2_nextRank 18 = .ok (.imul, 1) := by decide +kernel
theorem dX2_nextRank_19 : decode cX2_nextRank 19 = .ok (.bipush 99, 2) := by decide +kernel
theorem dX2_nextRank_21 : decode cX2_nextRank 21 = .ok (.iadd, 1) := by decide +kernel
theorem dX2_nextRank_22 : decode cX2_nextRank 22 = .ok (.iload_n 3, 1) := by decide +kernel
theorem dX2_nextRank_23 : decode cX2_nextRank 23 = .ok (.isub, 1) := by decide +kernel
theorem dX2_nextRank_24 : decode cX2_nextRank 24 = .ok (.istore 4, 2) := by decide +kernel
theorem dX2_nextRank_26 : decode cX2_nextRank 26 = .ok (.aload_n 0, 1) := by decide +kernel
theorem dX2_nextRank_27 : decode cX2_nextRank 27 = .ok (.getfield 9, 3) := by decide +kernel
theorem dX2_nextRank_30 : decode cX2_nextRank 30 = .ok (.iload_n 3, 1) := by decide +kernel
theorem dX2_nextRank_31 : decode cX2_nextRank 31 = .ok (.iaload, 1) := by decide +kernel
theorem dX2_nextRank_32 : decode cX2_nextRank 32 = .ok (.iconst 2, 1) := by decide +kernel
theorem dX2_nextRank_33 : decode cX2_nextRank 33 = .ok (.if_icmp .lt 18, 3) := by decide +kernel
theorem dX2_nextRank_36 : decode cX2_nextRank 36 = .ok (.iload 4, 2) := by decide +kernel
theorem dX2_nextRank_38 : decode cX2_nextRank 38 = .ok (.iload_n 1, 1) := by decide +kernel
theorem dX2_nextRank_39 : decode cX2_nextRank 39 = .ok (.if_icmp .ge 12, 3) := by decide +kernel
theorem dX2_nextRank_42 : decode cX2_nextRank 42 = .ok (.iload 4, 2) := by decide +kernel
theorem dX2_nextRank_44 : decode cX2_nextRank 44 = .ok (.iload_n 2, 1) := by decide +kernel
theorem dX2_nextRank_45 : decode cX2_nextRank 45 = .ok (.if_icmp .le 6, 3) := by decide +kernel
theorem dX2_nextRank_48 : decode cX2_nextRank 48 = .ok (.iload 4, 2) := by decide +kernel
theorem dX2_nextRank_50 : decode cX2_nextRank 50 = .ok (.istore_n 2, 1) := by decide +kernel
theorem dX2_nextRank_51 : decode cX2_nextRank 51 = .ok (.iinc 3 1, 3) := by decide +kernel
theorem dX2_nextRank_54 : decode cX2_nextRank 54 = .ok (.goto (-50), 3) := by decide +kernel
theorem dX2_nextRank_57 : decode cX2_nextRank 57 = .ok (.iload_n 2, 1) := by decide +kernel
theorem dX2_nextRank_58 : decode cX2_nextRank 58 = .ok (.ireturn, 1) := by decide +kernel
theorem dX2_isCommon_0 : decode cX2_isCommon 0 = .ok (.iconst 0, 1) := by decide +kernel
theorem dX2_isCommon_1 : decode cX2_isCommon 1 = .ok (.istore_n 2, 1) := by decide +kernel
theorem dX2_isCommon_2 : decode cX2_isCommon 2 = .ok (.iload_n 2, 1) := by decide +kernel
theorem dX2_isCommon_3 : decode cX2_isCommon 3 = .ok (.aload_n 0, 1) := by decide +kernel
theorem dX2_isCommon_4 : decode cX2_isCommon 4 = .ok (.getfield 55, 3) := by decide +kernel
theorem dX2_isCommon_7 : decode cX2_isCommon 7 = .ok (.if_icmp .ge 21, 3) := by decide +kernel
theorem dX2_isCommon_10 : decode cX2_isCommon 10 = .ok (.aload_n 0, 1) := by decide +kernel
theorem dX2_isCommon_11 : decode cX2_isCommon 11 = .ok (.getfield 15, 3) := by decide +kernel
theorem dX2_isCommon_14 : decode cX2_isCommon 14 = .ok (.iload_n 2, 1) := by decide +kernel
theorem dX2_isCommon_15 : decode cX2_isCommon 15 = .ok (.iaload, 1) := by decide +kernel
theorem dX2_isCommon_16 : decode cX2_isCommon 16 = .ok (.iload_n 1, 1) := by decide +kernel
theorem dX2_isCommon_17 : decode cX2_isCommon 17 = .ok (.if_icmp .ne 5, 3) := by decide +kernel
theorem dX2_isCommon_20 : decode cX2_isCommon 20 = .ok (.iconst 1, 1) := by decide +kernel
theorem dX2_isCommon_21 : decode cX2_isCommon 21 = .ok (.ireturn, 1) := by decide +kernel
theorem dX2_isCommon_22 : decode cX2_isCommon 22 = .ok (.iinc 2 1, 3) := by decide +kernel
theorem dX2_isCommon_25 : decode cX2_isCommon 25 = .ok (.goto (-23), 3) := by decide +kernel
theorem dX2_isCommon_28 : decode cX2_isCommon 28 = .ok (.iconst 0, 1) := by decide +kernel
theorem dX2_isCommon_29 : decode cX2_isCommon 29 = .ok (.ireturn, 1) := by decide +kernel
theorem dX2_cutBuckets_0 : decode cX2_cutBuckets 0 = .ok (.iload_n 1, 1) := by decide +kernel
theorem dX2_cutBuckets_1 : decode cX2_cutBuckets 1 = .ok (.istore_n 3, 1) := by decide +kernel
theorem dX2_cutBuckets_2 : decode cX2_cutBuckets 2 = .ok (.iconst 0, 1) := by decide +kernel
theorem dX2_cutBuckets_3 : decode cX2_cutBuckets 3 = .ok (.istore 4, 2) := by decide +kernel
theorem dX2_cutBuckets_5 : decode cX2_cutBuckets 5 = .ok (.iload 4, 2) := by decide +kernel
theorem dX2_cutBuckets_7 : decode cX2_cutBuckets 7 = .ok (.aload_n 0, 1) := by decide +kernel
theorem dX2_cutBuckets_8 : decode cX2_cutBuckets 8 = .ok (.getfield 55, 3) := by decide +kernel
theorem dX2_cutBuckets_11 : decode cX2_cutBuckets 11 = .ok (.if_icmp .ge 19, 3) := by decide +kernel
theorem dX2_cutBuckets_14 : decode cX2_cutBuckets 14 = .ok (.iload_n 3, 1) := by decide +kernel
theorem dX2_cutBuckets_15 : decode cX2_cutBuckets 15 = .ok (.aload_n 0, 1) := by decide +kernel
theorem dX2_cutBuckets_16 : decode cX2_cutBuckets 16 = .ok (.getfield 18, 3) := by decide +kernel
theorem dX2_cutBuckets_19 : decode cX2_cutBuckets 19 = .ok (.iload 4, 2) := by decide +kernel
theorem dX2_cutBuckets_21 : decode cX2_cutBuckets 21 = .ok (.iaload, 1) := by decide +kernel
theorem dX2_cutBuckets_22 : decode cX2_cutBuckets 22 = .ok (.isub, 1) := by decide +kernel
theorem dX2_cutBuckets_23 : decode cX2_cutBuckets 23 = .ok (.istore_n 3, 1) := by decide +kernel
theorem dX2_cutBuckets_24 : decode cX2_cutBuckets 24 = .ok (.iinc 4 1, 3) := by decide +kernel
theorem dX2_cutBuckets_27 : decode cX2_cutBuckets 27 = .ok (.goto (-22), 3) := by decide +kernel
theorem dX2_cutBuckets_30 : decode cX2_cutBuckets 30 = .ok (.aload_n 0, 1) := by decide +kernel
theorem dX2_cutBuckets_31 : decode cX2_cutBuckets 31 = .ok (.iload_n 2, 1) := by decide +kernel
theorem dX2_cutBuckets_32 : decode cX2_cutBuckets 32 = .ok (.bipush 10, 2) := by decide +kernel
theorem dX2_cutBuckets_34 : decode cX2_cutBuckets 34 = .ok (.invokestatic 63, 3) := by decide +kernel
theorem dX2_cutBuckets_37 : decode cX2_cutBuckets 37 = .ok (.iload_n 3, 1) := by decide +kernel
theorem dX2_cutBuckets_38 : decode cX2_cutBuckets 38 = .ok (.invokestatic 63, 3) := by decide +kernel
theorem dX2_cutBuckets_41 : decode cX2_cutBuckets 41 = .ok (.putfield 68, 3) := by decide +kernel
theorem dX2_cutBuckets_44 : decode cX2_cutBuckets 44 = .ok (.iconst (-1), 1) := by decide +kernel
theorem dX2_cutBuckets_45 : decode cX2_cutBuckets 45 = .ok (.istore 4, 2) := by decide +kernel
theorem dX2_cutBuckets_47 : decode cX2_cutBuckets 47 = .ok (.iconst 0, 1) := by decide +kernel
theorem dX2_cutBuckets_48 : decode cX2_cutBuckets 48 = .ok (.istore 5, 2) := by decide +kernel
theorem dX2_cutBuckets_50 : decode cX2_cutBuckets 50 = .ok (.iconst 0, 1) := by decide +kernel
theorem dX2_cutBuckets_51 : decode cX2_cutBuckets 51 = .ok (.istore 6, 2) := by decide +kernel
theorem dX2_cutBuckets_53 : decode cX2_cutBuckets 53 = .ok (.iload 6, 2) := by decide +kernel
theorem dX2_cutBuckets_55 : decode cX2_cutBuckets 55 = .ok (.bipush 100, 2) := by decide +kernel
theorem dX2_cutBuckets_57 : decode cX2_cutBuckets 57 = .ok (.if_icmp .ge 83, 3) := by decide +kernel
theorem dX2_cutBuckets_60 : decode cX2_cutBuckets 60 = .ok (.aload_n 0, 1) := by decide +kernel
theorem dX2_cutBuckets_61 : decode cX2_cutBuckets 61 = .ok (.iload 6, 2) := by decide +kernel
theorem dX2_cutBuckets_63 : decode cX2_cutBuckets 63 = .ok (.invokevirtual 71, 3) := by decide +kernel
theorem dX2_cutBuckets_66 : decode cX2_cutBuckets 66 = .ok (.ifCond .eq 7, 3) := by decide +kernel
theorem dX2_cutBuckets_69 : decode cX2_cutBuckets 69 = .ok (.iconst 0, 1) := by decide +kernel
theorem dX2_cutBuckets_70 : decode cX2_cutBuckets 70 = .ok (.goto 10, 3) := by decide +kernel
theorem dX2_cutBuckets_73 : decode cX2_cutBuckets 73 = .ok (.aload_n 0, 1) := by decide +kernel
theorem dX2_cutBuckets_74 : decode cX2_cutBuckets 74 = .ok (.getfield 9, 3) := by decide +kernel
theorem dX2_cutBuckets_77 : decode cX2_cutBuckets 77 = .ok (.iload 6, 2) := by decide +kernel
theorem dX2_cutBuckets_79 : decode cX2_cutBuckets 79 = .ok (.iaload, 1) := by decide +kernel
theorem dX2_cutBuckets_80 : decode cX2_cutBuckets 80 = .ok (.istore 7, 2) := by decide +kernel
theorem dX2_cutBuckets_82 : decode cX2_cutBuckets 82 = .ok (.iconst 0, 1) := by decide +kernel
theorem dX2_cutBuckets_83 : decode cX2_cutBuckets 83 = .ok (.istore 8, 2) := by decide +kernel
theorem dX2_cutBuckets_85 : decode cX2_cutBuckets 85 = .ok (.iload 8, 2) := by decide +kernel
theorem dX2_cutBuckets_87 : decode cX2_cutBuckets 87 = .ok (.iload 7, 2) := by decide +kernel
theorem dX2_cutBuckets_89 : decode cX2_cutBuckets 89 = .ok (.if_icmp .ge 45, 3) := by decide +kernel
theorem dX2_cutBuckets_92 : decode cX2_cutBuckets 92 = .ok (.iload 5, 2) := by decide +kernel
theorem dX2_cutBuckets_94 : decode cX2_cutBuckets 94 = .ok (.ifCond .ne 23, 3) := by decide +kernel
theorem dX2_cutBuckets_97 : decode cX2_cutBuckets 97 = .ok (.iinc 4 1, 3) := by decide +kernel
theorem dX2_cutBuckets_100 : decode cX2_cutBuckets 100 = .ok (.aload_n 0, 1) := by decide +kernel
theorem dX2_cutBuckets_101 : decode cX2_cutBuckets 101 = .ok (.iload 4, 2) := by decide +kernel
theorem dX2_cutBuckets_103 : decode cX2_cutBuckets 103 = .ok (.iload_n 3, 1) := by decide +kernel
theorem dX2_cutBuckets_104 : decode cX2_cutBuckets 104 = .ok (.invokevirtual 75, 3) := by decide +kernel
theorem dX2_cutBuckets_107 : decode cX2_cutBuckets 107 = .ok (.istore 5, 2) := by decide +kernel
theorem dX2_cutBuckets_109 : decode cX2_cutBuckets 109 = .ok (.aload_n 0, 1) := by decide +kernel
theorem dX2_cutBuckets_110 : decode cX2_cutBuckets 110 = .ok (.iload 4, 2) := by decide +kernel
theorem dX2_cutBuckets_112 : decode cX2_cutBuckets 112 = .ok (.iload 6, 2) := by decide +kernel
theorem dX2_cutBuckets_114 : decode cX2_cutBuckets 114 = .ok (.invokevirtual 78, 3) := by decide +kernel
theorem dX2_cutBuckets_117 : decode cX2_cutBuckets 117 = .ok (.aload_n 0, 1) := by decide +kernel
theorem dX2_cutBuckets_118 : decode cX2_cutBuckets 118 = .ok (.iload 4, 2) := by decide +kernel
theorem dX2_cutBuckets_120 : decode cX2_cutBuckets 120 = .ok (.iload 6, 2) := by decide +kernel
theorem dX2_cutBuckets_122 : decode cX2_cutBuckets 122 = .ok (.invokevirtual 81, 3) := by decide +kernel
theorem dX2_cutBuckets_125 : decode cX2_cutBuckets 125 = .ok (.iinc 5 (-1), 3) := by decide +kernel
theorem dX2_cutBuckets_128 : decode cX2_cutBuckets 128 = .ok (.iinc 8 1, 3) := by decide +kernel
theorem dX2_cutBuckets_131 : decode cX2_cutBuckets 131 = .ok (.goto (-46), 3) := by decide +kernel
theorem dX2_cutBuckets_134 : decode cX2_cutBuckets 134 = .ok (.iinc 6 1, 3) := by decide +kernel
theorem dX2_cutBuckets_137 : decode cX2_cutBuckets 137 = .ok (.goto (-84), 3) := by decide +kernel
theorem dX2_cutBuckets_140 : decode cX2_cutBuckets 140 = .ok (.return_, 1) := by decide +kernel
theorem dX2_fullHeight_0 : decode cX2_fullHeight 0 = .ok (.aload_n 0, 1) := by decide +kernel
theorem dX2_fullHeight_1 : decode cX2_fullHeight 1 = .ok (.getfield 68, 3) := by decide +kernel
theorem dX2_fullHeight_4 : decode cX2_fullHeight 4 = .ok (.ifCond .gt 5, 3) := by decide +kernel
theorem dX2_fullHeight_7 : decode cX2_fullHeight 7 = .ok (.iconst 0, 1) := by decide +kernel
theorem dX2_fullHeight_8 : decode cX2_fullHeight 8 = .ok (.ireturn, 1) := by decide +kernel
theorem dX2_fullHeight_9 : decode cX2_fullHeight 9 = .ok (.iload_n 2, 1) := by decide +kernel
theorem dX2_fullHeight_10 : decode cX2_fullHeight 10 = .ok (.aload_n 0, 1) := by decide +kernel
theorem dX2_fullHeight_11 : decode cX2_fullHeight 11 = .ok (.getfield 68, 3) := by decide +kernel
theorem dX2_fullHeight_14 : decode cX2_fullHeight 14 = .ok (.idiv, 1) := by decide +kernel
theorem dX2_fullHeight_15 : decode cX2_fullHeight 15 = .ok (.iload_n 1, 1) := by decide +kernel
theorem dX2_fullHeight_16 : decode cX2_fullHeight 16 = .ok (.iload_n 2, 1) := by decide +kernel
theorem dX2_fullHeight_17 : decode cX2_fullHeight 17 = .ok (.aload_n 0, 1) := by decide +kernel
theorem dX2_fullHeight_18 : decode cX2_fullHeight 18 = .ok (.getfield 68, 3) := by decide +kernel
theorem dX2_fullHeight_21 : decode cX2_fullHeight 21 = .ok (.irem, 1) := by decide +kernel
theorem dX2_fullHeight_22 : decode cX2_fullHeight 22 = .ok (.if_icmp .ge 7, 3) := by decide +kernel
theorem dX2_fullHeight_25 : decode cX2_fullHeight 25 = .ok (.iconst 1, 1) := by decide +kernel
theorem dX2_fullHeight_26 : decode cX2_fullHeight 26 = .ok (.goto 4, 3) := by decide +kernel
theorem dX2_fullHeight_29 : decode cX2_fullHeight 29 = .ok (.iconst 0, 1) := by decide +kernel
theorem dX2_fullHeight_30 : decode cX2_fullHeight 30 = .ok (.iadd, 1) := by decide +kernel
theorem dX2_fullHeight_31 : decode cX2_fullHeight 31 = .ok (.ireturn, 1) := by decide +kernel
theorem dX2_startBucket_0 : decode cX2_startBucket 0 = .ok (.iload_n 1, 1) := by decide +kernel
theorem dX2_startBucket_1 : decode cX2_startBucket 1 = .ok (.ifCond .lt 11, 3) := by decide +kernel
theorem dX2_startBucket_4 : decode cX2_startBucket 4 = .ok (.iload_n 1, 1) := by decide +kernel
theorem dX2_startBucket_5 : decode cX2_startBucket 5 = .ok (.aload_n 0, 1) := by decide +kernel
theorem dX2_startBucket_6 : decode cX2_startBucket 6 = .ok (.getfield 68, 3) := by decide +kernel
theorem dX2_startBucket_9 : decode cX2_startBucket 9 = .ok (.if_icmp .lt 4, 3) := by decide +kernel
theorem dX2_startBucket_12 : decode cX2_startBucket 12 = .ok (.return_, 1) := by decide +kernel
theorem dX2_startBucket_13 : decode cX2_startBucket 13 = .ok (.aload_n 0, 1) := by decide +kernel
theorem dX2_startBucket_14 : decode cX2_startBucket 14 = .ok (.getfield 21, 3) := by decide +kernel
theorem dX2_startBucket_17 : decode cX2_startBucket 17 = .ok (.iload_n 1, 1) := by decide +kernel
theorem dX2_startBucket_18 : decode cX2_startBucket 18 = .ok (.iload_n 2, 1) := by decide +kernel
theorem dX2_startBucket_19 : decode cX2_startBucket 19 = .ok (.iastore, 1) := by decide +kernel
theorem dX2_startBucket_20 : decode cX2_startBucket 20 = .ok (.aload_n 0, 1) := by decide +kernel
theorem dX2_startBucket_21 : decode cX2_startBucket 21 = .ok (.getfield 24, 3) := by decide +kernel
theorem dX2_startBucket_24 : decode cX2_startBucket 24 = .ok (.iload_n 1, 1) := by decide +kernel
theorem dX2_startBucket_25 : decode cX2_startBucket 25 = .ok (.iload_n 2, 1) := by decide +kernel
theorem dX2_startBucket_26 : decode cX2_startBucket 26 = .ok (.iastore, 1) := by decide +kernel
theorem dX2_startBucket_27 : decode cX2_startBucket 27 = .ok (.aload_n 0, 1) := by decide +kernel
theorem dX2_startBucket_28 : decode cX2_startBucket 28 = .ok (.getfield 27, 3) := by decide +kernel
theorem dX2_startBucket_31 : decode cX2_startBucket 31 = .ok (.iload_n 1, 1) := by decide +kernel
theorem dX2_startBucket_32 : decode cX2_startBucket 32 = .ok (.iconst 0, 1) := by decide +kernel
theorem dX2_startBucket_33 : decode cX2_startBucket 33 = .ok (.iastore, 1) := by decide +kernel
theorem dX2_startBucket_34 : decode cX2_startBucket 34 = .ok (.aload_n 0, 1) := by decide +kernel
theorem dX2_startBucket_35 : decode cX2_startBucket 35 = .ok (.getfield 30, 3) := by decide +kernel
theorem dX2_startBucket_38 : decode cX2_startBucket 38 = .ok (.iload_n 1, 1) := by decide +kernel
theorem dX2_startBucket_39 : decode cX2_startBucket 39 = .ok (.iconst 1, 1) := by decide +kernel
theorem dX2_startBucket_40 : decode cX2_startBucket 40 = .ok (.iastore, 1) := by decide +kernel
theorem dX2_startBucket_41 : decode cX2_startBucket 41 = .ok (.return_, 1) := by decide +kernel
theorem dX2_addToBucket_0 : decode cX2_addToBucket 0 = .ok (.iload_n 1, 1) := by decide +kernel
theorem dX2_addToBucket_1 : decode cX2_addToBucket 1 = .ok (.ifCond .lt 11, 3) := by decide +kernel
theorem dX2_addToBucket_4 : decode cX2_addToBucket 4 = .ok (.iload_n 1, 1) := by decide +kernel
theorem dX2_addToBucket_5 : decode cX2_addToBucket 5 = .ok (.aload_n 0, 1) := by decide +kernel
theorem dX2_addToBucket_6 : decode cX2_addToBucket 6 = .ok (.getfield 68, 3) := by decide +kernel
theorem dX2_addToBucket_9 : decode cX2_addToBucket 9 = .ok (.if_icmp .lt 4, 3) := by decide +kernel
theorem dX2_addToBucket_12 : decode cX2_addToBucket 12 = .ok (.return_, 1) := by decide +kernel
theorem dX2_addToBucket_13 : decode cX2_addToBucket 13 = .ok (.iload_n 2, 1) := by decide +kernel
theorem dX2_addToBucket_14 : decode cX2_addToBucket 14 = .ok (.aload_n 0, 1) := by decide +kernel
theorem dX2_addToBucket_15 : decode cX2_addToBucket 15 = .ok (.getfield 24, 3) := by decide +kernel
theorem dX2_addToBucket_18 : decode cX2_addToBucket 18 = .ok (.iload_n 1, 1) := by decide +kernel
theorem dX2_addToBucket_19 : decode cX2_addToBucket 19 = .ok (.iaload, 1) := by decide +kernel
theorem dX2_addToBucket_20 : decode cX2_addToBucket 20 = .ok (.if_icmp .eq 13, 3) := by decide +kernel
theorem dX2_addToBucket_23 : decode cX2_addToBucket 23 = .ok (.aload_n 0, 1) := by decide +kernel
theorem dX2_addToBucket_24 : decode cX2_addToBucket 24 = .ok (.getfield 30, 3) := by decide +kernel
theorem dX2_addToBucket_27 : decode cX2_addToBucket 27 = .ok (.iload_n 1, 1) := by decide +kernel
theorem dX2_addToBucket_28 : decode cX2_addToBucket 28 = .ok (.dup2, 1) := by decide +kernel
theorem dX2_addToBucket_29 : decode cX2_addToBucket 29 = .ok (.iaload, 1) := by decide +kernel
theorem dX2_addToBucket_30 : decode cX2_addToBucket 30 = .ok (.iconst 1, 1) := by decide +kernel
theorem dX2_addToBucket_31 : decode cX2_addToBucket 31 = .ok (.iadd, 1) := by decide +kernel
theorem dX2_addToBucket_32 : decode cX2_addToBucket 32 = .ok (.iastore, 1) := by decide +kernel
theorem dX2_addToBucket_33 : decode cX2_addToBucket 33 = .ok (.aload_n 0, 1) := by decide +kernel
theorem dX2_addToBucket_34 : decode cX2_addToBucket 34 = .ok (.getfield 24, 3) := by decide +kernel
theorem dX2_addToBucket_37 : decode cX2_addToBucket 37 = .ok (.iload_n 1, 1) := by decide +kernel
theorem dX2_addToBucket_38 : decode cX2_addToBucket 38 = .ok (.iload_n 2, 1) := by decide +kernel
theorem dX2_addToBucket_39 : decode cX2_addToBucket 39 = .ok (.iastore, 1) := by decide +kernel
theorem dX2_addToBucket_40 : decode cX2_addToBucket 40 = .ok (.aload_n 0, 1) := by decide +kernel
theorem dX2_addToBucket_41 : decode cX2_addToBucket 41 = .ok (.getfield 27, 3) := by decide +kernel
theorem dX2_addToBucket_44 : decode cX2_addToBucket 44 = .ok (.iload_n 1, 1) := by decide +kernel
theorem dX2_addToBucket_45 : decode cX2_addToBucket 45 = .ok (.dup2, 1) := by decide +kernel
theorem dX2_addToBucket_46 : decode cX2_addToBucket 46 = .ok (.iaload, 1) := by decide +kernel
theorem dX2_addToBucket_47 : decode cX2_addToBucket 47 = .ok (.iconst 1, 1) := by decide +kernel
theorem dX2_addToBucket_48 : decode cX2_addToBucket 48 = .ok (.iadd, 1) := by decide +kernel
theorem dX2_addToBucket_49 : decode cX2_addToBucket 49 = .ok (.iastore, 1) := by decide +kernel
theorem dX2_addToBucket_50 : decode cX2_addToBucket 50 = .ok (.return_, 1) := by decide +kernel
theorem dX2_tellCommon_0 : decode cX2_tellCommon 0 = .ok (.iload_n 1, 1) := by decide +kernel
theorem dX2_tellCommon_1 : decode cX2_tellCommon 1 = .ok (.ifCond .lt 11, 3) := by decide +kernel
theorem dX2_tellCommon_4 : decode cX2_tellCommon 4 = .ok (.iload_n 1, 1) := by decide +kernel
theorem dX2_tellCommon_5 : decode cX2_tellCommon 5 = .ok (.aload_n 0, 1) := by decide +kernel
theorem dX2_tellCommon_6 : decode cX2_tellCommon 6 = .ok (.getfield 55, 3) := by decide +kernel
theorem dX2_tellCommon_9 : decode cX2_tellCommon 9 = .ok (.if_icmp .lt 5, 3) := by decide +kernel
theorem dX2_tellCommon_12 : decode cX2_tellCommon 12 = .ok (.iconst (-1), 1) := by decide +kernel
theorem dX2_tellCommon_13 : decode cX2_tellCommon 13 = .ok (.ireturn, 1) := by decide +kernel
theorem dX2_tellCommon_14 : decode cX2_tellCommon 14 = .ok (.iload_n 2, 1) := by decide +kernel
theorem dX2_tellCommon_15 : decode cX2_tellCommon 15 = .ok (.ifCond .ne 12, 3) := by decide +kernel
theorem dX2_tellCommon_18 : decode cX2_tellCommon 18 = .ok (.aload_n 0, 1) := by decide +kernel
theorem dX2_tellCommon_19 : decode cX2_tellCommon 19 = .ok (.getfield 15, 3) := by decide +kernel
theorem dX2_tellCommon_22 : decode cX2_tellCommon 22 = .ok (.iload_n 1, 1) := by decide +kernel
theorem dX2_tellCommon_23 : decode cX2_tellCommon 23 = .ok (.iaload, 1) := by decide +kernel
theorem dX2_tellCommon_24 : decode cX2_tellCommon 24 = .ok (.goto 9, 3) := by decide +kernel
theorem dX2_tellCommon_27 : decode cX2_tellCommon 27 = .ok (.aload_n 0, 1) := by decide +kernel
theorem dX2_tellCommon_28 : decode cX2_tellCommon 28 = .ok (.getfield 18, 3) := by decide +kernel
theorem dX2_tellCommon_31 : decode cX2_tellCommon 31 = .ok (.iload_n 1, 1) := by decide +kernel
theorem dX2_tellCommon_32 : decode cX2_tellCommon 32 = .ok (.iaload, 1) := by decide +kernel
theorem dX2_tellCommon_33 : decode cX2_tellCommon 33 = .ok (.ireturn, 1) := by decide +kernel
theorem dX2_tellBucket_0 : decode cX2_tellBucket 0 = .ok (.iload_n 1, 1) := by decide +kernel
theorem dX2_tellBucket_1 : decode cX2_tellBucket 1 = .ok (.ifCond .lt 11, 3) := by decide +kernel
theorem dX2_tellBucket_4 : decode cX2_tellBucket 4 = .ok (.iload_n 1, 1) := by decide +kernel
theorem dX2_tellBucket_5 : decode cX2_tellBucket 5 = .ok (.aload_n 0, 1) := by decide +kernel
theorem dX2_tellBucket_6 : decode cX2_tellBucket 6 = .ok (.getfield 68, 3) := by decide +kernel
theorem dX2_tellBucket_9 : decode cX2_tellBucket 9 = .ok (.if_icmp .lt 5, 3) := by decide +kernel
theorem dX2_tellBucket_12 : decode cX2_tellBucket 12 = .ok (.iconst (-1), 1) := by decide +kernel
theorem dX2_tellBucket_13 : decode cX2_tellBucket 13 = .ok (.ireturn, 1) := by decide +kernel
theorem dX2_tellBucket_14 : decode cX2_tellBucket 14 = .ok (.iload_n 2, 1) := by decide +kernel
theorem dX2_tellBucket_15 : decode cX2_tellBucket 15 = .ok (.tableswitch 46 0 2 #[25, 32, 39], 25) := by decide +kernel
theorem dX2_tellBucket_40 : decode cX2_tellBucket 40 = .ok (.aload_n 0, 1) := by decide +kernel
theorem dX2_tellBucket_41 : decode cX2_tellBucket 41 = .ok (.getfield 21, 3) := by decide +kernel
theorem dX2_tellBucket_44 : decode cX2_tellBucket 44 = .ok (.iload_n 1, 1) := by decide +kernel
theorem dX2_tellBucket_45 : decode cX2_tellBucket 45 = .ok (.iaload, 1) := by decide +kernel
theorem dX2_tellBucket_46 : decode cX2_tellBucket 46 = .ok (.ireturn, 1) := by decide +kernel
theorem dX2_tellBucket_47 : decode cX2_tellBucket 47 = .ok (.aload_n 0, 1) := by decide +kernel
theorem dX2_tellBucket_48 : decode cX2_tellBucket 48 = .ok (.getfield 24, 3) := by decide +kernel
theorem dX2_tellBucket_51 : decode cX2_tellBucket 51 = .ok (.iload_n 1, 1) := by decide +kernel
theorem dX2_tellBucket_52 : decode cX2_tellBucket 52 = .ok (.iaload, 1) := by decide +kernel
theorem dX2_tellBucket_53 : decode cX2_tellBucket 53 = .ok (.ireturn, 1) := by decide +kernel
theorem dX2_tellBucket_54 : decode cX2_tellBucket 54 = .ok (.aload_n 0, 1) := by decide +kernel
theorem dX2_tellBucket_55 : decode cX2_tellBucket 55 = .ok (.getfield 27, 3) := by decide +kernel
theorem dX2_tellBucket_58 : decode cX2_tellBucket 58 = .ok (.iload_n 1, 1) := by decide +kernel
theorem dX2_tellBucket_59 : decode cX2_tellBucket 59 = .ok (.iaload, 1) := by decide +kernel
theorem dX2_tellBucket_60 : decode cX2_tellBucket 60 = .ok (.ireturn, 1) := by decide +kernel
theorem dX2_tellBucket_61 : decode cX2_tellBucket 61 = .ok (.aload_n 0, 1) := by decide +kernel
theorem dX2_tellBucket_62 : decode cX2_tellBucket 62 = .ok (.getfield 30, 3) := by decide +kernel
theorem dX2_tellBucket_65 : decode cX2_tellBucket 65 = .ok (.iload_n 1, 1) := by decide +kernel
theorem dX2_tellBucket_66 : decode cX2_tellBucket 66 = .ok (.iaload, 1) := by decide +kernel
theorem dX2_tellBucket_67 : decode cX2_tellBucket 67 = .ok (.ireturn, 1) := by decide +kernel
theorem dX2_rowsOfBuckets_0 : decode cX2_rowsOfBuckets 0 = .ok (.iconst 0, 1) := by decide +kernel
theorem dX2_rowsOfBuckets_1 : decode cX2_rowsOfBuckets 1 = .ok (.istore_n 1, 1) := by decide +kernel
theorem dX2_rowsOfBuckets_2 : decode cX2_rowsOfBuckets 2 = .ok (.iconst 0, 1) := by decide +kernel
theorem dX2_rowsOfBuckets_3 : decode cX2_rowsOfBuckets 3 = .ok (.istore_n 2, 1) := by decide +kernel
theorem dX2_rowsOfBuckets_4 : decode cX2_rowsOfBuckets 4 = .ok (.iload_n 2, 1) := by decide +kernel
theorem dX2_rowsOfBuckets_5 : decode cX2_rowsOfBuckets 5 = .ok (.aload_n 0, 1) := by decide +kernel
theorem dX2_rowsOfBuckets_6 : decode cX2_rowsOfBuckets 6 = .ok (.getfield 68, 3) := by decide +kernel
theorem dX2_rowsOfBuckets_9 : decode cX2_rowsOfBuckets 9 = .ok (.if_icmp .ge 18, 3) := by decide +kernel
theorem dX2_rowsOfBuckets_12 : decode cX2_rowsOfBuckets 12 = .ok (.iload_n 1, 1) := by decide +kernel
theorem dX2_rowsOfBuckets_13 : decode cX2_rowsOfBuckets 13 = .ok (.aload_n 0, 1) := by decide +kernel
theorem dX2_rowsOfBuckets_14 : decode cX2_rowsOfBuckets 14 = .ok (.getfield 27, 3) := by decide +kernel
theorem dX2_rowsOfBuckets_17 : decode cX2_rowsOfBuckets 17 = .ok (.iload_n 2, 1) := by decide +kernel
theorem dX2_rowsOfBuckets_18 : decode cX2_rowsOfBuckets 18 = .ok (.iaload, 1) := by decide +kernel
theorem dX2_rowsOfBuckets_19 : decode cX2_rowsOfBuckets 19 = .ok (.iadd, 1) := by decide +kernel
theorem dX2_rowsOfBuckets_20 : decode cX2_rowsOfBuckets 20 = .ok (.istore_n 1, 1) := by decide +kernel
theorem dX2_rowsOfBuckets_21 : decode cX2_rowsOfBuckets 21 = .ok (.iinc 2 1, 3) := by decide +kernel
theorem dX2_rowsOfBuckets_24 : decode cX2_rowsOfBuckets 24 = .ok (.goto (-20), 3) := by decide +kernel
theorem dX2_rowsOfBuckets_27 : decode cX2_rowsOfBuckets 27 = .ok (.iload_n 1, 1) := by decide +kernel
theorem dX2_rowsOfBuckets_28 : decode cX2_rowsOfBuckets 28 = .ok (.ireturn, 1) := by decide +kernel
theorem dX2_rowsOfCommon_0 : decode cX2_rowsOfCommon 0 = .ok (.iconst 0, 1) := by decide +kernel
theorem dX2_rowsOfCommon_1 : decode cX2_rowsOfCommon 1 = .ok (.istore_n 3, 1) := by decide +kernel
theorem dX2_rowsOfCommon_2 : decode cX2_rowsOfCommon 2 = .ok (.iconst 0, 1) := by decide +kernel
theorem dX2_rowsOfCommon_3 : decode cX2_rowsOfCommon 3 = .ok (.istore 4, 2) := by decide +kernel
theorem dX2_rowsOfCommon_5 : decode cX2_rowsOfCommon 5 = .ok (.iload 4, 2) := by decide +kernel
theorem dX2_rowsOfCommon_7 : decode cX2_rowsOfCommon 7 = .ok (.aload_n 0, 1) := by decide +kernel
theorem dX2_rowsOfCommon_8 : decode cX2_rowsOfCommon 8 = .ok (.getfield 55, 3) := by decide +kernel
theorem dX2_rowsOfCommon_11 : decode cX2_rowsOfCommon 11 = .ok (.if_icmp .ge 38, 3) := by decide +kernel
theorem dX2_rowsOfCommon_14 : decode cX2_rowsOfCommon 14 = .ok (.iload_n 3, 1) := by decide +kernel
theorem dX2_rowsOfCommon_15 : decode cX2_rowsOfCommon 15 = .ok (.aload_n 0, 1) := by decide +kernel
theorem dX2_rowsOfCommon_16 : decode cX2_rowsOfCommon 16 = .ok (.getfield 15, 3) := by decide +kernel
theorem dX2_rowsOfCommon_19 : decode cX2_rowsOfCommon 19 = .ok (.iload 4, 2) := by decide +kernel
theorem dX2_rowsOfCommon_21 : decode cX2_rowsOfCommon 21 = .ok (.iaload, 1) := by decide +kernel
theorem dX2_rowsOfCommon_22 : decode cX2_rowsOfCommon 22 = .ok (.iload_n 1, 1) := by decide +kernel
theorem dX2_rowsOfCommon_23 : decode cX2_rowsOfCommon 23 = .ok (.iload_n 2, 1) := by decide +kernel
theorem dX2_rowsOfCommon_24 : decode cX2_rowsOfCommon 24 = .ok (.invokestatic 84, 3) := by decide +kernel
theorem dX2_rowsOfCommon_27 : decode cX2_rowsOfCommon 27 = .ok (.ifCond .eq 13, 3) := by decide +kernel
theorem dX2_rowsOfCommon_30 : decode cX2_rowsOfCommon 30 = .ok (.aload_n 0, 1) := by decide +kernel
theorem dX2_rowsOfCommon_31 : decode cX2_rowsOfCommon 31 = .ok (.getfield 18, 3) := by decide +kernel
theorem dX2_rowsOfCommon_34 : decode cX2_rowsOfCommon 34 = .ok (.iload 4, 2) := by decide +kernel
theorem dX2_rowsOfCommon_36 : decode cX2_rowsOfCommon 36 = .ok (.iaload, 1) := by decide +kernel
theorem dX2_rowsOfCommon_37 : decode cX2_rowsOfCommon 37 = .ok (.goto 4, 3) := by decide +kernel
theorem dX2_rowsOfCommon_40 : decode cX2_rowsOfCommon 40 = .ok (.iconst 0, 1) := by decide +kernel
theorem dX2_rowsOfCommon_41 : decode cX2_rowsOfCommon 41 = .ok (.iadd, 1) := by decide +kernel
theorem dX2_rowsOfCommon_42 : decode cX2_rowsOfCommon 42 = .ok (.istore_n 3, 1) := by decide +kernel
theorem dX2_rowsOfCommon_43 : decode cX2_rowsOfCommon 43 = .ok (.iinc 4 1, 3) := by decide +kernel
theorem dX2_rowsOfCommon_46 : decode cX2_rowsOfCommon 46 = .ok (.goto (-41), 3) := by decide +kernel
theorem dX2_rowsOfCommon_49 : decode cX2_rowsOfCommon 49 = .ok (.iload_n 3, 1) := by decide +kernel
theorem dX2_rowsOfCommon_50 : decode cX2_rowsOfCommon 50 = .ok (.ireturn, 1) := by decide +kernel
theorem dX2_guess_0 : decode cX2_guess 0 = .ok (.aload_n 0, 1) := by decide +kernel
theorem dX2_guess_1 : decode cX2_guess 1 = .ok (.iload_n 1, 1) := by decide +kernel
theorem dX2_guess_2 : decode cX2_guess 2 = .ok (.iload_n 2, 1) := by decide +kernel
theorem dX2_guess_3 : decode cX2_guess 3 = .ok (.invokevirtual 88, 3) := by decide +kernel
theorem dX2_guess_6 : decode cX2_guess 6 = .ok (.istore_n 3, 1) := by decide +kernel
theorem dX2_guess_7 : decode cX2_guess 7 = .ok (.iconst 0, 1) := by decide +kernel
theorem dX2_guess_8 : decode cX2_guess 8 = .ok (.istore 4, 2) := by decide +kernel
theorem dX2_guess_10 : decode cX2_guess 10 = .ok (.iload 4, 2) := by decide +kernel
theorem dX2_guess_12 : decode cX2_guess 12 = .ok (.aload_n 0, 1) := by decide +kernel
theorem dX2_guess_13 : decode cX2_guess 13 = .ok (.getfield 68, 3) := by decide +kernel
theorem dX2_guess_16 : decode cX2_guess 16 = .ok (.if_icmp .ge 81, 3) := by decide +kernel
theorem dX2_guess_19 : decode cX2_guess 19 = .ok (.aload_n 0, 1) := by decide +kernel
theorem dX2_guess_20 : decode cX2_guess 20 = .ok (.getfield 24, 3) := by decide +kernel
theorem dX2_guess_23 : decode cX2_guess 23 = .ok (.iload 4, 2) := by decide +kernel
theorem dX2_guess_25 : decode cX2_guess 25 = .ok (.iaload, 1) := by decide +kernel
theorem dX2_guess_26 : decode cX2_guess 26 = .ok (.aload_n 0, 1) := by decide +kernel
theorem dX2_guess_27 : decode cX2_guess 27 = .ok (.getfield 21, 3) := by decide +kernel
theorem dX2_guess_30 : decode cX2_guess 30 = .ok (.iload 4, 2) := by decide +kernel
theorem dX2_guess_32 : decode cX2_guess 32 = .ok (.iaload, 1) := by decide +kernel
theorem dX2_guess_33 : decode cX2_guess 33 = .ok (.isub, 1) := by decide +kernel
theorem dX2_guess_34 : decode cX2_guess 34 = .ok (.iconst 1, 1) := by decide +kernel
theorem dX2_guess_35 : decode cX2_guess 35 = .ok (.iadd, 1) := by decide +kernel
theorem dX2_guess_36 : decode cX2_guess 36 = .ok (.istore 5, 2) := by decide +kernel
theorem dX2_guess_38 : decode cX2_guess 38 = .ok (.aload_n 0, 1) := by decide +kernel
theorem dX2_guess_39 : decode cX2_guess 39 = .ok (.getfield 24, 3) := by decide +kernel
theorem dX2_guess_42 : decode cX2_guess 42 = .ok (.iload 4, 2) := by decide +kernel
theorem dX2_guess_44 : decode cX2_guess 44 = .ok (.iaload, 1) := by decide +kernel
theorem dX2_guess_45 : decode cX2_guess 45 = .ok (.iload_n 2, 1) := by decide +kernel
theorem dX2_guess_46 : decode cX2_guess 46 = .ok (.invokestatic 63, 3) := by decide +kernel
theorem dX2_guess_49 : decode cX2_guess 49 = .ok (.aload_n 0, 1) := by decide +kernel
theorem dX2_guess_50 : decode cX2_guess 50 = .ok (.getfield 21, 3) := by decide +kernel
theorem dX2_guess_53 : decode cX2_guess 53 = .ok (.iload 4, 2) := by decide +kernel
theorem dX2_guess_55 : decode cX2_guess 55 = .ok (.iaload, 1) := by decide +kernel
theorem dX2_guess_56 : decode cX2_guess 56 = .ok (.iload_n 1, 1) := by decide +kernel
theorem dX2_guess_57 : decode cX2_guess 57 = .ok (.invokestatic 91, 3) := by decide +kernel
theorem dX2_guess_60 : decode cX2_guess 60 = .ok (.isub, 1) := by decide +kernel
theorem dX2_guess_61 : decode cX2_guess 61 = .ok (.iconst 1, 1) := by decide +kernel
theorem dX2_guess_62 : decode cX2_guess 62 = .ok (.iadd, 1) := by decide +kernel
theorem dX2_guess_63 : decode cX2_guess 63 = .ok (.istore 6, 2) := by decide +kernel
theorem dX2_guess_65 : decode cX2_guess 65 = .ok (.iload 5, 2) := by decide +kernel
theorem dX2_guess_67 : decode cX2_guess 67 = .ok (.ifCond .le 24, 3) := by decide +kernel
theorem dX2_guess_70 : decode cX2_guess 70 = .ok (.iload 6, 2) := by decide +kernel
theorem dX2_guess_72 : decode cX2_guess 72 = .ok (.ifCond .le 19, 3) := by decide +kernel
theorem dX2_guess_75 : decode cX2_guess 75 = .ok (.iload_n 3, 1) := by decide +kernel
theorem dX2_guess_76 : decode cX2_guess 76 = .ok (.aload_n 0, 1) := by decide +kernel
theorem dX2_guess_77 : decode cX2_guess 77 = .ok (.getfield 27, 3) := by decide +kernel
theorem dX2_guess_80 : decode cX2_guess 80 = .ok (.iload 4, 2) := by decide +kernel
theorem dX2_guess_82 : decode cX2_guess 82 = .ok (.iaload, 1) := by decide +kernel
theorem dX2_guess_83 : decode cX2_guess 83 = .ok (.iload 6, 2) := by decide +kernel
theorem dX2_guess_85 : decode cX2_guess 85 = .ok (.imul, 1) := by decide +kernel
theorem dX2_guess_86 : decode cX2_guess 86 = .ok (.iload 5, 2) := by decide +kernel
theorem dX2_guess_88 : decode cX2_guess 88 = .ok (.idiv, 1) := by decide +kernel
theorem dX2_guess_89 : decode cX2_guess 89 = .ok (.iadd, 1) := by decide +kernel
theorem dX2_guess_90 : decode cX2_guess 90 = .ok (.istore_n 3, 1) := by decide +kernel
theorem dX2_guess_91 : decode cX2_guess 91 = .ok (.iinc 4 1, 3) := by decide +kernel
theorem dX2_guess_94 : decode cX2_guess 94 = .ok (.goto (-84), 3) := by decide +kernel
theorem dX2_guess_97 : decode cX2_guess 97 = .ok (.iload_n 3, 1) := by decide +kernel
theorem dX2_guess_98 : decode cX2_guess 98 = .ok (.ireturn, 1) := by decide +kernel
theorem dX2_least_0 : decode cX2_least 0 = .ok (.aload_n 0, 1) := by decide +kernel
theorem dX2_least_1 : decode cX2_least 1 = .ok (.iload_n 1, 1) := by decide +kernel
theorem dX2_least_2 : decode cX2_least 2 = .ok (.iload_n 2, 1) := by decide +kernel
theorem dX2_least_3 : decode cX2_least 3 = .ok (.invokevirtual 88, 3) := by decide +kernel
theorem dX2_least_6 : decode cX2_least 6 = .ok (.istore_n 3, 1) := by decide +kernel
theorem dX2_least_7 : decode cX2_least 7 = .ok (.iconst 0, 1) := by decide +kernel
theorem dX2_least_8 : decode cX2_least 8 = .ok (.istore 4, 2) := by decide +kernel
theorem dX2_least_10 : decode cX2_least 10 = .ok (.iload 4, 2) := by decide +kernel
theorem dX2_least_12 : decode cX2_least 12 = .ok (.aload_n 0, 1) := by decide +kernel
theorem dX2_least_13 : decode cX2_least 13 = .ok (.getfield 68, 3) := by decide +kernel
theorem dX2_least_16 : decode cX2_least 16 = .ok (.if_icmp .ge 45, 3) := by decide +kernel
theorem dX2_least_19 : decode cX2_least 19 = .ok (.iload_n 3, 1) := by decide +kernel
theorem dX2_least_20 : decode cX2_least 20 = .ok (.iload_n 1, 1) := by decide +kernel
theorem dX2_least_21 : decode cX2_least 21 = .ok (.aload_n 0, 1) := by decide +kernel
theorem dX2_least_22 : decode cX2_least 22 = .ok (.getfield 21, 3) := by decide +kernel
theorem dX2_least_25 : decode cX2_least 25 = .ok (.iload 4, 2) := by decide +kernel
theorem dX2_least_27 : decode cX2_least 27 = .ok (.iaload, 1) := by decide +kernel
theorem dX2_least_28 : decode cX2_least 28 = .ok (.if_icmp .gt 24, 3) := by decide +kernel
theorem dX2_least_31 : decode cX2_least 31 = .ok (.aload_n 0, 1) := by decide +kernel
theorem dX2_least_32 : decode cX2_least 32 = .ok (.getfield 24, 3) := by decide +kernel
theorem dX2_least_35 : decode cX2_least 35 = .ok (.iload 4, 2) := by decide +kernel
theorem dX2_least_37 : decode cX2_least 37 = .ok (.iaload, 1) := by decide +kernel
theorem dX2_least_38 : decode cX2_least 38 = .ok (.iload_n 2, 1) := by decide +kernel
theorem dX2_least_39 : decode cX2_least 39 = .ok (.if_icmp .gt 13, 3) := by decide +kernel
theorem dX2_least_42 : decode cX2_least 42 = .ok (.aload_n 0, 1) := by decide +kernel
theorem dX2_least_43 : decode cX2_least 43 = .ok (.getfield 27, 3) := by decide +kernel
theorem dX2_least_46 : decode cX2_least 46 = .ok (.iload 4, 2) := by decide +kernel
theorem dX2_least_48 : decode cX2_least 48 = .ok (.iaload, 1) := by decide +kernel
theorem dX2_least_49 : decode cX2_least 49 = .ok (.goto 4, 3) := by decide +kernel
theorem dX2_least_52 : decode cX2_least 52 = .ok (.iconst 0, 1) := by decide +kernel
theorem dX2_least_53 : decode cX2_least 53 = .ok (.iadd, 1) := by decide +kernel
theorem dX2_least_54 : decode cX2_least 54 = .ok (.istore_n 3, 1) := by decide +kernel
theorem dX2_least_55 : decode cX2_least 55 = .ok (.iinc 4 1, 3) := by decide +kernel
theorem dX2_least_58 : decode cX2_least 58 = .ok (.goto (-48), 3) := by decide +kernel
theorem dX2_least_61 : decode cX2_least 61 = .ok (.iload_n 3, 1) := by decide +kernel
theorem dX2_least_62 : decode cX2_least 62 = .ok (.ireturn, 1) := by decide +kernel
theorem dX2_most_0 : decode cX2_most 0 = .ok (.aload_n 0, 1) := by decide +kernel
theorem dX2_most_1 : decode cX2_most 1 = .ok (.iload_n 1, 1) := by decide +kernel
theorem dX2_most_2 : decode cX2_most 2 = .ok (.iload_n 2, 1) := by decide +kernel
theorem dX2_most_3 : decode cX2_most 3 = .ok (.invokevirtual 88, 3) := by decide +kernel
theorem dX2_most_6 : decode cX2_most 6 = .ok (.istore_n 3, 1) := by decide +kernel
theorem dX2_most_7 : decode cX2_most 7 = .ok (.iconst 0, 1) := by decide +kernel
theorem dX2_most_8 : decode cX2_most 8 = .ok (.istore 4, 2) := by decide +kernel
theorem dX2_most_10 : decode cX2_most 10 = .ok (.iload 4, 2) := by decide +kernel
theorem dX2_most_12 : decode cX2_most 12 = .ok (.aload_n 0, 1) := by decide +kernel
theorem dX2_most_13 : decode cX2_most 13 = .ok (.getfield 68, 3) := by decide +kernel
theorem dX2_most_16 : decode cX2_most 16 = .ok (.if_icmp .ge 45, 3) := by decide +kernel
theorem dX2_most_19 : decode cX2_most 19 = .ok (.iload_n 3, 1) := by decide +kernel
theorem dX2_most_20 : decode cX2_most 20 = .ok (.iload_n 1, 1) := by decide +kernel
theorem dX2_most_21 : decode cX2_most 21 = .ok (.aload_n 0, 1) := by decide +kernel
theorem dX2_most_22 : decode cX2_most 22 = .ok (.getfield 24, 3) := by decide +kernel
theorem dX2_most_25 : decode cX2_most 25 = .ok (.iload 4, 2) := by decide +kernel
theorem dX2_most_27 : decode cX2_most 27 = .ok (.iaload, 1) := by decide +kernel
theorem dX2_most_28 : decode cX2_most 28 = .ok (.if_icmp .gt 24, 3) := by decide +kernel
theorem dX2_most_31 : decode cX2_most 31 = .ok (.aload_n 0, 1) := by decide +kernel
theorem dX2_most_32 : decode cX2_most 32 = .ok (.getfield 21, 3) := by decide +kernel
theorem dX2_most_35 : decode cX2_most 35 = .ok (.iload 4, 2) := by decide +kernel
theorem dX2_most_37 : decode cX2_most 37 = .ok (.iaload, 1) := by decide +kernel
theorem dX2_most_38 : decode cX2_most 38 = .ok (.iload_n 2, 1) := by decide +kernel
theorem dX2_most_39 : decode cX2_most 39 = .ok (.if_icmp .gt 13, 3) := by decide +kernel
theorem dX2_most_42 : decode cX2_most 42 = .ok (.aload_n 0, 1) := by decide +kernel
theorem dX2_most_43 : decode cX2_most 43 = .ok (.getfield 27, 3) := by decide +kernel
theorem dX2_most_46 : decode cX2_most 46 = .ok (.iload 4, 2) := by decide +kernel
theorem dX2_most_48 : decode cX2_most 48 = .ok (.iaload, 1) := by decide +kernel
theorem dX2_most_49 : decode cX2_most 49 = .ok (.goto 4, 3) := by decide +kernel
theorem dX2_most_52 : decode cX2_most 52 = .ok (.iconst 0, 1) := by decide +kernel
theorem dX2_most_53 : decode cX2_most 53 = .ok (.iadd, 1) := by decide +kernel
theorem dX2_most_54 : decode cX2_most 54 = .ok (.istore_n 3, 1) := by decide +kernel
theorem dX2_most_55 : decode cX2_most 55 = .ok (.iinc 4 1, 3) := by decide +kernel
theorem dX2_most_58 : decode cX2_most 58 = .ok (.goto (-48), 3) := by decide +kernel
theorem dX2_most_61 : decode cX2_most 61 = .ok (.iload_n 3, 1) := by decide +kernel
theorem dX2_most_62 : decode cX2_most 62 = .ok (.ireturn, 1) := by decide +kernel
theorem dX2_miss_0 : decode cX2_miss 0 = .ok (.iload_n 1, 1) := by decide +kernel
theorem dX2_miss_1 : decode cX2_miss 1 = .ok (.invokestatic 94, 3) := by decide +kernel
theorem dX2_miss_4 : decode cX2_miss 4 = .ok (.ifCond .eq 22, 3) := by decide +kernel
theorem dX2_miss_7 : decode cX2_miss 7 = .ok (.aload_n 0, 1) := by decide +kernel
theorem dX2_miss_8 : decode cX2_miss 8 = .ok (.iload_n 1, 1) := by decide +kernel
theorem dX2_miss_9 : decode cX2_miss 9 = .ok (.iload_n 1, 1) := by decide +kernel
theorem dX2_miss_10 : decode cX2_miss 10 = .ok (.invokevirtual 97, 3) := by decide +kernel
theorem dX2_miss_13 : decode cX2_miss 13 = .ok (.aload_n 0, 1) := by decide +kernel
theorem dX2_miss_14 : decode cX2_miss 14 = .ok (.getfield 9, 3) := by decide +kernel
theorem dX2_miss_17 : decode cX2_miss 17 = .ok (.iload_n 1, 1) := by decide +kernel
theorem dX2_miss_18 : decode cX2_miss 18 = .ok (.iaload, 1) := by decide +kernel
theorem dX2_miss_19 : decode cX2_miss 19 = .ok (.isub, 1) := by decide +kernel
theorem dX2_miss_20 : decode cX2_miss 20 = .ok (.invokestatic 100, 3) := by decide +kernel
theorem dX2_miss_23 : decode cX2_miss 23 = .ok (.goto 4, 3) := by decide +kernel
theorem dX2_miss_26 : decode cX2_miss 26 = .ok (.iconst 0, 1) := by decide +kernel
theorem dX2_miss_27 : decode cX2_miss 27 = .ok (.ireturn, 1) := by decide +kernel
theorem dX2_worstValue_0 : decode cX2_worstValue 0 = .ok (.iconst 0, 1) := by decide +kernel
theorem dX2_worstValue_1 : decode cX2_worstValue 1 = .ok (.istore_n 1, 1) := by decide +kernel
theorem dX2_worstValue_2 : decode cX2_worstValue 2 = .ok (.aload_n 0, 1) := by decide +kernel
theorem dX2_worstValue_3 : decode cX2_worstValue 3 = .ok (.iconst 0, 1) := by decide +kernel
theorem dX2_worstValue_4 : decode cX2_worstValue 4 = .ok (.invokevirtual 103, 3) := by decide +kernel
theorem dX2_worstValue_7 : decode cX2_worstValue 7 = .ok (.istore_n 2, 1) := by decide +kernel
theorem dX2_worstValue_8 : decode cX2_worstValue 8 = .ok (.iconst 1, 1) := by decide +kernel
theorem dX2_worstValue_9 : decode cX2_worstValue 9 = .ok (.istore_n 3, 1) := by decide +kernel
theorem dX2_worstValue_10 : decode cX2_worstValue 10 = .ok (.iload_n 3, 1) := by decide +kernel
theorem dX2_worstValue_11 : decode cX2_worstValue 11 = .ok (.bipush 100, 2) := by decide +kernel
theorem dX2_worstValue_13 : decode cX2_worstValue 13 = .ok (.if_icmp .ge 27, 3) := by decide +kernel
theorem dX2_worstValue_16 : decode cX2_worstValue 16 = .ok (.aload_n 0, 1) := by decide +kernel
theorem dX2_worstValue_17 : decode cX2_worstValue 17 = .ok (.iload_n 3, 1) := by decide +kernel
theorem dX2_worstValue_18 : decode cX2_worstValue 18 = .ok (.invokevirtual 103, 3) := by decide +kernel
theorem dX2_worstValue_21 : decode cX2_worstValue 21 = .ok (.istore 4, 2) := by decide +kernel
theorem dX2_worstValue_23 : decode cX2_worstValue 23 = .ok (.iload 4, 2) := by decide +kernel
theorem dX2_worstValue_25 : decode cX2_worstValue 25 = .ok (.iload_n 2, 1) := by decide +kernel
theorem dX2_worstValue_26 : decode cX2_worstValue 26 = .ok (.if_icmp .le 8, 3) := by decide +kernel
theorem dX2_worstValue_29 : decode cX2_worstValue 29 = .ok (.iload_n 3, 1) := by decide +kernel
theorem dX2_worstValue_30 : decode cX2_worstValue 30 = .ok (.istore_n 1, 1) := by decide +kernel
theorem dX2_worstValue_31 : decode cX2_worstValue 31 = .ok (.iload 4, 2) := by decide +kernel
theorem dX2_worstValue_33 : decode cX2_worstValue 33 = .ok (.istore_n 2, 1) := by decide +kernel
theorem dX2_worstValue_34 : decode cX2_worstValue 34 = .ok (.iinc 3 1, 3) := by decide +kernel
theorem dX2_worstValue_37 : decode cX2_worstValue 37 = .ok (.goto (-27), 3) := by decide +kernel
theorem dX2_worstValue_40 : decode cX2_worstValue 40 = .ok (.iload_n 1, 1) := by decide +kernel
theorem dX2_worstValue_41 : decode cX2_worstValue 41 = .ok (.ireturn, 1) := by decide +kernel
theorem dX2_copyFrom_0 : decode cX2_copyFrom 0 = .ok (.aload_n 1, 1) := by decide +kernel
theorem dX2_copyFrom_1 : decode cX2_copyFrom 1 = .ok (.getfield 9, 3) := by decide +kernel
theorem dX2_copyFrom_4 : decode cX2_copyFrom 4 = .ok (.aload_n 0, 1) := by decide +kernel
theorem dX2_copyFrom_5 : decode cX2_copyFrom 5 = .ok (.getfield 9, 3) := by decide +kernel
theorem dX2_copyFrom_8 : decode cX2_copyFrom 8 = .ok (.invokestatic 106, 3) := by decide +kernel
theorem dX2_copyFrom_11 : decode cX2_copyFrom 11 = .ok (.aload_n 1, 1) := by decide +kernel
theorem dX2_copyFrom_12 : decode cX2_copyFrom 12 = .ok (.getfield 15, 3) := by decide +kernel
theorem dX2_copyFrom_15 : decode cX2_copyFrom 15 = .ok (.aload_n 0, 1) := by decide +kernel
theorem dX2_copyFrom_16 : decode cX2_copyFrom 16 = .ok (.getfield 15, 3) := by decide +kernel
theorem dX2_copyFrom_19 : decode cX2_copyFrom 19 = .ok (.invokestatic 106, 3) := by decide +kernel
theorem dX2_copyFrom_22 : decode cX2_copyFrom 22 = .ok (.aload_n 1, 1) := by decide +kernel
theorem dX2_copyFrom_23 : decode cX2_copyFrom 23 = .ok (.getfield 18, 3) := by decide +kernel
theorem dX2_copyFrom_26 : decode cX2_copyFrom 26 = .ok (.aload_n 0, 1) := by decide +kernel
theorem dX2_copyFrom_27 : decode cX2_copyFrom 27 = .ok (.getfield 18, 3) := by decide +kernel
theorem dX2_copyFrom_30 : decode cX2_copyFrom 30 = .ok (.invokestatic 106, 3) := by decide +kernel
theorem dX2_copyFrom_33 : decode cX2_copyFrom 33 = .ok (.aload_n 0, 1) := by decide +kernel
theorem dX2_copyFrom_34 : decode cX2_copyFrom 34 = .ok (.aload_n 1, 1) := by decide +kernel
theorem dX2_copyFrom_35 : decode cX2_copyFrom 35 = .ok (.getfield 55, 3) := by decide +kernel
theorem dX2_copyFrom_38 : decode cX2_copyFrom 38 = .ok (.putfield 55, 3) := by decide +kernel
theorem dX2_copyFrom_41 : decode cX2_copyFrom 41 = .ok (.aload_n 1, 1) := by decide +kernel
theorem dX2_copyFrom_42 : decode cX2_copyFrom 42 = .ok (.getfield 21, 3) := by decide +kernel
theorem dX2_copyFrom_45 : decode cX2_copyFrom 45 = .ok (.aload_n 0, 1) := by decide +kernel
theorem dX2_copyFrom_46 : decode cX2_copyFrom 46 = .ok (.getfield 21, 3) := by decide +kernel
theorem dX2_copyFrom_49 : decode cX2_copyFrom 49 = .ok (.invokestatic 106, 3) := by decide +kernel
theorem dX2_copyFrom_52 : decode cX2_copyFrom 52 = .ok (.aload_n 1, 1) := by decide +kernel
theorem dX2_copyFrom_53 : decode cX2_copyFrom 53 = .ok (.getfield 24, 3) := by decide +kernel
theorem dX2_copyFrom_56 : decode cX2_copyFrom 56 = .ok (.aload_n 0, 1) := by decide +kernel
theorem dX2_copyFrom_57 : decode cX2_copyFrom 57 = .ok (.getfield 24, 3) := by decide +kernel
theorem dX2_copyFrom_60 : decode cX2_copyFrom 60 = .ok (.invokestatic 106, 3) := by decide +kernel
theorem dX2_copyFrom_63 : decode cX2_copyFrom 63 = .ok (.aload_n 1, 1) := by decide +kernel
theorem dX2_copyFrom_64 : decode cX2_copyFrom 64 = .ok (.getfield 27, 3) := by decide +kernel
theorem dX2_copyFrom_67 : decode cX2_copyFrom 67 = .ok (.aload_n 0, 1) := by decide +kernel
theorem dX2_copyFrom_68 : decode cX2_copyFrom 68 = .ok (.getfield 27, 3) := by decide +kernel
theorem dX2_copyFrom_71 : decode cX2_copyFrom 71 = .ok (.invokestatic 106, 3) := by decide +kernel
theorem dX2_copyFrom_74 : decode cX2_copyFrom 74 = .ok (.aload_n 1, 1) := by decide +kernel
theorem dX2_copyFrom_75 : decode cX2_copyFrom 75 = .ok (.getfield 30, 3) := by decide +kernel
theorem dX2_copyFrom_78 : decode cX2_copyFrom 78 = .ok (.aload_n 0, 1) := by decide +kernel
theorem dX2_copyFrom_79 : decode cX2_copyFrom 79 = .ok (.getfield 30, 3) := by decide +kernel
theorem dX2_copyFrom_82 : decode cX2_copyFrom 82 = .ok (.invokestatic 106, 3) := by decide +kernel
theorem dX2_copyFrom_85 : decode cX2_copyFrom 85 = .ok (.aload_n 0, 1) := by decide +kernel
theorem dX2_copyFrom_86 : decode cX2_copyFrom 86 = .ok (.aload_n 1, 1) := by decide +kernel
theorem dX2_copyFrom_87 : decode cX2_copyFrom 87 = .ok (.getfield 68, 3) := by decide +kernel
theorem dX2_copyFrom_90 : decode cX2_copyFrom 90 = .ok (.putfield 68, 3) := by decide +kernel
theorem dX2_copyFrom_93 : decode cX2_copyFrom 93 = .ok (.return_, 1) := by decide +kernel
theorem dX3_init_0 : decode cX3_init 0 = .ok (.aload_n 0, 1) := by decide +kernel
theorem dX3_init_1 : decode cX3_init 1 = .ok (.invokespecial 3, 3) := by decide +kernel
theorem dX3_init_4 : decode cX3_init 4 = .ok (.aload_n 0, 1) := by decide +kernel
theorem dX3_init_5 : decode cX3_init 5 = .ok (.bipush 7, 2) := by decide +kernel
theorem dX3_init_7 : decode cX3_init 7 = .ok (.anewarray 11, 3) := by decide +kernel
theorem dX3_init_10 : decode cX3_init 10 = .ok (.putfield 13, 3) := by decide +kernel
theorem dX3_init_13 : decode cX3_init 13 = .ok (.return_, 1) := by decide +kernel
theorem dX3_prepare_0 : decode cX3_prepare 0 = .ok (.aload_n 0, 1) := by decide +kernel
theorem dX3_prepare_1 : decode cX3_prepare 1 = .ok (.getfield 17, 3) := by decide +kernel
theorem dX3_prepare_4 : decode cX3_prepare 4 = .ok (.ifCond .lt 15, 3) := by decide +kernel
theorem dX3_prepare_7 : decode cX3_prepare 7 = .ok (.aload_n 0, 1) := by decide +kernel
theorem dX3_prepare_8 : decode cX3_prepare 8 = .ok (.getfield 17, 3) := by decide +kernel
theorem dX3_prepare_11 : decode cX3_prepare 11 = .ok (.aload_n 0, 1) := by decide +kernel
theorem dX3_prepare_12 : decode cX3_prepare 12 = .ok (.getfield 13, 3) := by decide +kernel
theorem dX3_prepare_15 : decode cX3_prepare 15 = .ok (.arraylength, 1) := by decide +kernel
theorem dX3_prepare_16 : decode cX3_prepare 16 = .ok (.if_icmp .lt 4, 3) := by decide +kernel
theorem dX3_prepare_19 : decode cX3_prepare 19 = .ok (.return_, 1) := by decide +kernel
theorem dX3_prepare_20 : decode cX3_prepare 20 = .ok (.aload_n 0, 1) := by decide +kernel
theorem dX3_prepare_21 : decode cX3_prepare 21 = .ok (.getfield 13, 3) := by decide +kernel
theorem dX3_prepare_24 : decode cX3_prepare 24 = .ok (.aload_n 0, 1) := by decide +kernel
theorem dX3_prepare_25 : decode cX3_prepare 25 = .ok (.getfield 17, 3) := by decide +kernel
theorem dX3_prepare_28 : decode cX3_prepare 28 = .ok (.aaload, 1) := by decide +kernel
theorem dX3_prepare_29 : decode cX3_prepare 29 = .ok (.astore_n 2, 1) := by decide +kernel
theorem dX3_prepare_30 : decode cX3_prepare 30 = .ok (.aload_n 2, 1) := by decide +kernel
theorem dX3_prepare_31 : decode cX3_prepare 31 = .ok (.ifnonnull 21, 3) := by decide +kernel
theorem dX3_prepare_34 : decode cX3_prepare 34 = .ok (.new 11, 3) := by decide +kernel
theorem dX3_prepare_37 : decode cX3_prepare 37 = .ok (.dup, 1) := by decide +kernel
theorem dX3_prepare_38 : decode cX3_prepare 38 = .ok (.invokespecial 21, 3) := by decide +kernel
theorem dX3_prepare_41 : decode cX3_prepare 41 = .ok (.astore_n 2, 1) := by decide +kernel
theorem dX3_prepare_42 : decode cX3_prepare 42 = .ok (.aload_n 0, 1) := by decide +kernel
theorem dX3_prepare_43 : decode cX3_prepare 43 = .ok (.getfield 13, 3) := by decide +kernel
theorem dX3_prepare_46 : decode cX3_prepare 46 = .ok (.aload_n 0, 1) := by decide +kernel
theorem dX3_prepare_47 : decode cX3_prepare 47 = .ok (.getfield 17, 3) := by decide +kernel
theorem dX3_prepare_50 : decode cX3_prepare 50 = .ok (.aload_n 2, 1) := by decide +kernel
theorem dX3_prepare_51 : decode cX3_prepare 51 = .ok (.aastore, 1) := by decide +kernel
theorem dX3_prepare_52 : decode cX3_prepare 52 = .ok (.aload_n 2, 1) := by decide +kernel
theorem dX3_prepare_53 : decode cX3_prepare 53 = .ok (.aload_n 1, 1) := by decide +kernel
theorem dX3_prepare_54 : decode cX3_prepare 54 = .ok (.invokevirtual 22, 3) := by decide +kernel
theorem dX3_prepare_57 : decode cX3_prepare 57 = .ok (.return_, 1) := by decide +kernel
theorem dX3_keep_0 : decode cX3_keep 0 = .ok (.aload_n 0, 1) := by decide +kernel
theorem dX3_keep_1 : decode cX3_keep 1 = .ok (.aload_n 0, 1) := by decide +kernel
theorem dX3_keep_2 : decode cX3_keep 2 = .ok (.getfield 17, 3) := by decide +kernel
theorem dX3_keep_5 : decode cX3_keep 5 = .ok (.iconst 1, 1) := by decide +kernel
theorem dX3_keep_6 : decode cX3_keep 6 = .ok (.iadd, 1) := by decide +kernel
theorem dX3_keep_7 : decode cX3_keep 7 = .ok (.bipush 7, 2) := by decide +kernel
theorem dX3_keep_9 : decode cX3_keep 9 = .ok (.irem, 1) := by decide +kernel
theorem dX3_keep_10 : decode cX3_keep 10 = .ok (.putfield 17, 3) := by decide +kernel
theorem dX3_keep_13 : decode cX3_keep 13 = .ok (.aload_n 0, 1) := by decide +kernel
theorem dX3_keep_14 : decode cX3_keep 14 = .ok (.aload_n 0, 1) := by decide +kernel
theorem dX3_keep_15 : decode cX3_keep 15 = .ok (.getfield 26, 3) := by decide +kernel
theorem dX3_keep_18 : decode cX3_keep 18 = .ok (.iconst 1, 1) := by decide +kernel
theorem dX3_keep_19 : decode cX3_keep 19 = .ok (.iadd, 1) := by decide +kernel
theorem dX3_keep_20 : decode cX3_keep 20 = .ok (.bipush 6, 2) := by decide +kernel
theorem dX3_keep_22 : decode cX3_keep 22 = .ok (.invokestatic 29, 3) := by decide +kernel
theorem dX3_keep_25 : decode cX3_keep 25 = .ok (.putfield 26, 3) := by decide +kernel
theorem dX3_keep_28 : decode cX3_keep 28 = .ok (.return_, 1) := by decide +kernel
theorem dX3_bringBack_0 : decode cX3_bringBack 0 = .ok (.aload_n 0, 1) := by decide +kernel
theorem dX3_bringBack_1 : decode cX3_bringBack 1 = .ok (.getfield 17, 3) := by decide +kernel
theorem dX3_bringBack_4 : decode cX3_bringBack 4 = .ok (.bipush 7, 2) := by decide +kernel
theorem dX3_bringBack_6 : decode cX3_bringBack 6 = .ok (.iadd, 1) := by decide +kernel
theorem dX3_bringBack_7 : decode cX3_bringBack 7 = .ok (.iconst 1, 1) := by decide +kernel
theorem dX3_bringBack_8 : decode cX3_bringBack 8 = .ok (.isub, 1) := by decide +kernel
theorem dX3_bringBack_9 : decode cX3_bringBack 9 = .ok (.bipush 7, 2) := by decide +kernel
theorem dX3_bringBack_11 : decode cX3_bringBack 11 = .ok (.irem, 1) := by decide +kernel
theorem dX3_bringBack_12 : decode cX3_bringBack 12 = .ok (.istore_n 2, 1) := by decide +kernel
theorem dX3_bringBack_13 : decode cX3_bringBack 13 = .ok (.aload_n 0, 1) := by decide +kernel
theorem dX3_bringBack_14 : decode cX3_bringBack 14 = .ok (.getfield 26, 3) := by decide +kernel
theorem dX3_bringBack_17 : decode cX3_bringBack 17 = .ok (.ifCond .le 16, 3) := by decide +kernel
theorem dX3_bringBack_20 : decode cX3_bringBack 20 = .ok (.iload_n 2, 1) := by decide +kernel
theorem dX3_bringBack_21 : decode cX3_bringBack 21 = .ok (.ifCond .lt 12, 3) := by decide +kernel
theorem dX3_bringBack_24 : decode cX3_bringBack 24 = .ok (.iload_n 2, 1) := by decide +kernel
theorem dX3_bringBack_25 : decode cX3_bringBack 25 = .ok (.aload_n 0, 1) := by decide +kernel
theorem dX3_bringBack_26 : decode cX3_bringBack 26 = .ok (.getfield 13, 3) := by decide +kernel
theorem dX3_bringBack_29 : decode cX3_bringBack 29 = .ok (.arraylength, 1) := by decide +kernel
theorem dX3_bringBack_30 : decode cX3_bringBack 30 = .ok (.if_icmp .lt 4, 3) := by decide +kernel
theorem dX3_bringBack_33 : decode cX3_bringBack 33 = .ok (.return_, 1) := by decide +kernel
theorem dX3_bringBack_34 : decode cX3_bringBack 34 = .ok (.aload_n 0, 1) := by decide +kernel
theorem dX3_bringBack_35 : decode cX3_bringBack 35 = .ok (.getfield 13, 3) := by decide +kernel
theorem dX3_bringBack_38 : decode cX3_bringBack 38 = .ok (.iload_n 2, 1) := by decide +kernel
theorem dX3_bringBack_39 : decode cX3_bringBack 39 = .ok (.aaload, 1) := by decide +kernel
theorem dX3_bringBack_40 : decode cX3_bringBack 40 = .ok (.astore_n 3, 1) := by decide +kernel
theorem dX3_bringBack_41 : decode cX3_bringBack 41 = .ok (.aload_n 3, 1) := by decide +kernel
theorem dX3_bringBack_42 : decode cX3_bringBack 42 = .ok (.ifnonnull 4, 3) := by decide +kernel
theorem dX3_bringBack_45 : decode cX3_bringBack 45 = .ok (.return_, 1) := by decide +kernel
theorem dX3_bringBack_46 : decode cX3_bringBack 46 = .ok (.aload_n 1, 1) := by decide +kernel
theorem dX3_bringBack_47 : decode cX3_bringBack 47 = .ok (.aload_n 3, 1) := by decide +kernel
theorem dX3_bringBack_48 : decode cX3_bringBack 48 = .ok (.invokevirtual 22, 3) := by decide +kernel
theorem dX3_bringBack_51 : decode cX3_bringBack 51 = .ok (.aload_n 0, 1) := by decide +kernel
theorem dX3_bringBack_52 : decode cX3_bringBack 52 = .ok (.iload_n 2, 1) := by decide +kernel
theorem dX3_bringBack_53 : decode cX3_bringBack 53 = .ok (.putfield 17, 3) := by decide +kernel
theorem dX3_bringBack_56 : decode cX3_bringBack 56 = .ok (.aload_n 0, 1) := by decide +kernel
theorem dX3_bringBack_57 : decode cX3_bringBack 57 = .ok (.dup, 1) := by decide +kernel
theorem dX3_bringBack_58 : decode cX3_bringBack 58 = .ok (.getfield 26, 3) := by decide +kernel
theorem dX3_bringBack_61 : decode cX3_bringBack 61 = .ok (.iconst 1, 1) := by decide +kernel
theorem dX3_bringBack_62 : decode cX3_bringBack 62 = .ok (.isub, 1) := by decide +kernel
theorem dX3_bringBack_63 : decode cX3_bringBack 63 = .ok (.putfield 26, 3) := by decide +kernel
theorem dX3_bringBack_66 : decode cX3_bringBack 66 = .ok (.return_, 1) := by decide +kernel
theorem dX4_init_0 : decode cX4_init 0 = .ok (.aload_n 0, 1) := by decide +kernel
theorem dX4_init_1 : decode cX4_init 1 = .ok (.invokespecial 3, 3) := by decide +kernel
theorem dX4_init_4 : decode cX4_init 4 = .ok (.aload_n 0, 1) := by decide +kernel
theorem dX4_init_5 : decode cX4_init 5 = .ok (.bipush 80, 2) := by decide +kernel
theorem dX4_init_7 : decode cX4_init 7 = .ok (.newarray .char, 2) := by decide +kernel
theorem dX4_init_9 : decode cX4_init 9 = .ok (.putfield 9, 3) := by decide +kernel
theorem dX4_init_12 : decode cX4_init 12 = .ok (.return_, 1) := by decide +kernel
theorem dX4_append_0 : decode cX4_append 0 = .ok (.lload_n 1, 1) := by decide +kernel
theorem dX4_append_1 : decode cX4_append 1 = .ok (.invokestatic 15, 3) := by decide +kernel
theorem dX4_append_4 : decode cX4_append 4 = .ok (.istore_n 3, 1) := by decide +kernel
theorem dX4_append_5 : decode cX4_append 5 = .ok (.iload_n 3, 1) := by decide +kernel
theorem dX4_append_6 : decode cX4_append 6 = .ok (.ifCond .ne 6, 3) := by decide +kernel
theorem dX4_append_9 : decode cX4_append 9 = .ok (.bipush (-2), 2) := by decide +kernel
theorem dX4_append_11 : decode cX4_append 11 = .ok (.ireturn, 1) := by decide +kernel
theorem dX4_append_12 : decode cX4_append 12 = .ok (.aload_n 0, 1) := by decide +kernel
theorem dX4_append_13 : decode cX4_append 13 = .ok (.getfield 19, 3) := by decide +kernel
theorem dX4_append_16 : decode cX4_append 16 = .ok (.iload_n 3, 1) := by decide +kernel
theorem dX4_append_17 : decode cX4_append 17 = .ok (.iadd, 1) := by decide +kernel
theorem dX4_append_18 : decode cX4_append 18 = .ok (.bipush 80, 2) := by decide +kernel
theorem dX4_append_20 : decode cX4_append 20 = .ok (.if_icmp .le 6, 3) := by decide +kernel
theorem dX4_append_23 : decode cX4_append 23 = .ok (.bipush (-4), 2) := by decide +kernel
theorem dX4_append_25 : decode cX4_append 25 = .ok (.ireturn, 1) := by decide +kernel
theorem dX4_append_26 : decode cX4_append 26 = .ok (.lload_n 1, 1) := by decide +kernel
theorem dX4_append_27 : decode cX4_append 27 = .ok (.lstore 4, 2) := by decide +kernel
theorem dX4_append_29 : decode cX4_append 29 = .ok (.aload_n 0, 1) := by decide +kernel
theorem dX4_append_30 : decode cX4_append 30 = .ok (.getfield 19, 3) := by decide +kernel
theorem dX4_append_33 : decode cX4_append 33 = .ok (.iload_n 3, 1) := by decide +kernel
theorem dX4_append_34 : decode cX4_append 34 = .ok (.iadd, 1) := by decide +kernel
theorem dX4_append_35 : decode cX4_append 35 = .ok (.iconst 1, 1) := by decide +kernel
theorem dX4_append_36 : decode cX4_append 36 = .ok (.isub, 1) := by decide +kernel
theorem dX4_append_37 : decode cX4_append 37 = .ok (.istore 6, 2) := by decide +kernel
theorem dX4_append_39 : decode cX4_append 39 = .ok (.iload 6, 2) := by decide +kernel
theorem dX4_append_41 : decode cX4_append 41 = .ok (.aload_n 0, 1) := by decide +kernel
theorem dX4_append_42 : decode cX4_append 42 = .ok (.getfield 19, 3) := by decide +kernel
theorem dX4_append_45 : decode cX4_append 45 = .ok (.if_icmp .lt 36, 3) := by decide +kernel
theorem dX4_append_48 : decode cX4_append 48 = .ok (.iload 6, 2) := by decide +kernel
theorem dX4_append_50 : decode cX4_append 50 = .ok (.ifCond .lt 31, 3) := by decide +kernel
theorem dX4_append_53 : decode cX4_append 53 = .ok (.aload_n 0, 1) := by decide +kernel
theorem dX4_append_54 : decode cX4_append 54 = .ok (.getfield 9, 3) := by decide +kernel
theorem dX4_append_57 : decode cX4_append 57 = .ok (.iload 6, 2) := by decide +kernel
theorem dX4_append_59 : decode cX4_append 59 = .ok (.lload 4, 2) := by decide +kernel
theorem dX4_append_61 : decode cX4_append 61 = .ok (.ldc2_w 23, 3) := by decide +kernel
theorem dX4_append_64 : decode cX4_append 64 = .ok (.land, 1) := by decide +kernel
theorem dX4_append_65 : decode cX4_append 65 = .ok (.l2i, 1) := by decide +kernel
theorem dX4_append_66 : decode cX4_append 66 = .ok (.i2c, 1) := by decide +kernel
theorem dX4_append_67 : decode cX4_append 67 = .ok (.castore, 1) := by decide +kernel
theorem dX4_append_68 : decode cX4_append 68 = .ok (.lload 4, 2) := by decide +kernel
theorem dX4_append_70 : decode cX4_append 70 = .ok (.bipush 8, 2) := by decide +kernel
theorem dX4_append_72 : decode cX4_append 72 = .ok (.lushr, 1) := by decide +kernel
theorem dX4_append_73 : decode cX4_append 73 = .ok (.lstore 4, 2) := by decide +kernel
theorem dX4_append_75 : decode cX4_append 75 = .ok (.iinc 6 (-1), 3) := by decide +kernel
theorem dX4_append_78 : decode cX4_append 78 = .ok (.goto (-39), 3) := by decide +kernel
theorem dX4_append_81 : decode cX4_append 81 = .ok (.aload_n 0, 1) := by decide +kernel
theorem dX4_append_82 : decode cX4_append 82 = .ok (.dup, 1) := by decide +kernel
theorem dX4_append_83 : decode cX4_append 83 = .ok (.getfield 19, 3) := by decide +kernel
theorem dX4_append_86 : decode cX4_append 86 = .ok (.iload_n 3, 1) := by decide +kernel
theorem dX4_append_87 : decode cX4_append 87 = .ok (.iadd, 1) := by decide +kernel
theorem dX4_append_88 : decode cX4_append 88 = .ok (.putfield 19, 3) := by decide +kernel
theorem dX4_append_91 : decode cX4_append 91 = .ok (.aload_n 0, 1) := by decide +kernel
theorem dX4_append_92 : decode cX4_append 92 = .ok (.getfield 19, 3) := by decide +kernel
theorem dX4_append_95 : decode cX4_append 95 = .ok (.ireturn, 1) := by decide +kernel
theorem dX4_signsIn_0 : decode cX4_signsIn 0 = .ok (.iconst 0, 1) := by decide +kernel
theorem dX4_signsIn_1 : decode cX4_signsIn 1 = .ok (.istore_n 2, 1) := by decide +kernel
theorem dX4_signsIn_2 : decode cX4_signsIn 2 = .ok (.lload_n 0, 1) := by decide +kernel
theorem dX4_signsIn_3 : decode cX4_signsIn 3 = .ok (.lstore_n 3, 1) := by decide +kernel
theorem dX4_signsIn_4 : decode cX4_signsIn 4 = .ok (.iconst 0, 1) := by decide +kernel
theorem dX4_signsIn_5 : decode cX4_signsIn 5 = .ok (.istore 5, 2) := by decide +kernel
theorem dX4_signsIn_7 : decode cX4_signsIn 7 = .ok (.iload 5, 2) := by decide +kernel
theorem dX4_signsIn_9 : decode cX4_signsIn 9 = .ok (.bipush 8, 2) := by decide +kernel
theorem dX4_signsIn_11 : decode cX4_signsIn 11 = .ok (.if_icmp .ge 45, 3) := by decide +kernel
theorem dX4_signsIn_14 : decode cX4_signsIn 14 = .ok (.lload_n 3, 1) := by decide +kernel
theorem dX4_signsIn_15 : decode cX4_signsIn 15 = .ok (.lconst 0, 1) := by decide +kernel
theorem dX4_signsIn_16 : decode cX4_signsIn 16 = .ok (.lcmp, 1) := by decide +kernel
theorem dX4_signsIn_17 : decode cX4_signsIn 17 = .ok (.ifCond .eq 39, 3) := by decide +kernel
theorem dX4_signsIn_20 : decode cX4_signsIn 20 = .ok (.lload_n 3, 1) := by decide +kernel
theorem dX4_signsIn_21 : decode cX4_signsIn 21 = .ok (.ldc2_w 23, 3) := by decide +kernel
theorem dX4_signsIn_24 : decode cX4_signsIn 24 = .ok (.land, 1) := by decide +kernel
theorem dX4_signsIn_25 : decode cX4_signsIn 25 = .ok (.l2i, 1) := by decide +kernel
theorem dX4_signsIn_26 : decode cX4_signsIn 26 = .ok (.istore 6, 2) := by decide +kernel
theorem dX4_signsIn_28 : decode cX4_signsIn 28 = .ok (.iload 6, 2) := by decide +kernel
theorem dX4_signsIn_30 : decode cX4_signsIn 30 = .ok (.bipush 33, 2) := by decide +kernel
theorem dX4_signsIn_32 : decode cX4_signsIn 32 = .ok (.bipush 126, 2) := by decide +kernel
theorem dX4_signsIn_34 : decode cX4_signsIn 34 = .ok (.invokestatic 25, 3) := by decide +kernel
theorem dX4_signsIn_37 : decode cX4_signsIn 37 = .ok (.ifCond .ne 5, 3) := by decide +kernel
theorem dX4_signsIn_40 : decode cX4_signsIn 40 = .ok (.iconst 0, 1) := by decide +kernel
theorem dX4_signsIn_41 : decode cX4_signsIn 41 = .ok (.ireturn, 1) := by decide +kernel
theorem dX4_signsIn_42 : decode cX4_signsIn 42 = .ok (.iinc 2 1, 3) := by decide +kernel
theorem dX4_signsIn_45 : decode cX4_signsIn 45 = .ok (.lload_n 3, 1) := by decide +kernel
theorem dX4_signsIn_46 : decode cX4_signsIn 46 = .ok (.bipush 8, 2) := by decide +kernel
theorem dX4_signsIn_48 : decode cX4_signsIn 48 = .ok (.lushr, 1) := by decide +kernel
theorem dX4_signsIn_49 : decode cX4_signsIn 49 = .ok (.lstore_n 3, 1) := by decide +kernel
theorem dX4_signsIn_50 : decode cX4_signsIn 50 = .ok (.iinc 5 1, 3) := by decide +kernel
theorem dX4_signsIn_53 : decode cX4_signsIn 53 = .ok (.goto (-46), 3) := by decide +kernel
theorem dX4_signsIn_56 : decode cX4_signsIn 56 = .ok (.iload_n 2, 1) := by decide +kernel
theorem dX4_signsIn_57 : decode cX4_signsIn 57 = .ok (.ireturn, 1) := by decide +kernel
theorem dX4_signAt_0 : decode cX4_signAt 0 = .ok (.iload_n 1, 1) := by decide +kernel
theorem dX4_signAt_1 : decode cX4_signAt 1 = .ok (.ifCond .lt 20, 3) := by decide +kernel
theorem dX4_signAt_4 : decode cX4_signAt 4 = .ok (.iload_n 1, 1) := by decide +kernel
theorem dX4_signAt_5 : decode cX4_signAt 5 = .ok (.aload_n 0, 1) := by decide +kernel
theorem dX4_signAt_6 : decode cX4_signAt 6 = .ok (.getfield 19, 3) := by decide +kernel
theorem dX4_signAt_9 : decode cX4_signAt 9 = .ok (.if_icmp .ge 12, 3) := by decide +kernel
theorem dX4_signAt_12 : decode cX4_signAt 12 = .ok (.aload_n 0, 1) := by decide +kernel
theorem dX4_signAt_13 : decode cX4_signAt 13 = .ok (.getfield 9, 3) := by decide +kernel
theorem dX4_signAt_16 : decode cX4_signAt 16 = .ok (.iload_n 1, 1) := by decide +kernel
theorem dX4_signAt_17 : decode cX4_signAt 17 = .ok (.caload, 1) := by decide +kernel
theorem dX4_signAt_18 : decode cX4_signAt 18 = .ok (.goto 4, 3) := by decide +kernel
theorem dX4_signAt_21 : decode cX4_signAt 21 = .ok (.iconst 0, 1) := by decide +kernel
theorem dX4_signAt_22 : decode cX4_signAt 22 = .ok (.ireturn, 1) := by decide +kernel
theorem dX4_clear_0 : decode cX4_clear 0 = .ok (.aload_n 0, 1) := by decide +kernel
theorem dX4_clear_1 : decode cX4_clear 1 = .ok (.getfield 19, 3) := by decide +kernel
theorem dX4_clear_4 : decode cX4_clear 4 = .ok (.istore_n 1, 1) := by decide +kernel
theorem dX4_clear_5 : decode cX4_clear 5 = .ok (.aload_n 0, 1) := by decide +kernel
theorem dX4_clear_6 : decode cX4_clear 6 = .ok (.iconst 0, 1) := by decide +kernel
theorem dX4_clear_7 : decode cX4_clear 7 = .ok (.putfield 19, 3) := by decide +kernel
theorem dX4_clear_10 : decode cX4_clear 10 = .ok (.iload_n 1, 1) := by decide +kernel
theorem dX4_clear_11 : decode cX4_clear 11 = .ok (.ireturn, 1) := by decide +kernel
theorem dX5_init_0 : decode cX5_init 0 = .ok (.aload_n 0, 1) := by decide +kernel
theorem dX5_init_1 : decode cX5_init 1 = .ok (.invokespecial 3, 3) := by decide +kernel
theorem dX5_init_4 : decode cX5_init 4 = .ok (.aload_n 0, 1) := by decide +kernel
theorem dX5_init_5 : decode cX5_init 5 = .ok (.bipush 6, 2) := by decide +kernel
theorem dX5_init_7 : decode cX5_init 7 = .ok (.newarray .int, 2) := by decide +kernel
theorem dX5_init_9 : decode cX5_init 9 = .ok (.putfield 9, 3) := by decide +kernel
theorem dX5_init_12 : decode cX5_init 12 = .ok (.aload_n 0, 1) := by decide +kernel
theorem dX5_init_13 : decode cX5_init 13 = .ok (.bipush 6, 2) := by decide +kernel
theorem dX5_init_15 : decode cX5_init 15 = .ok (.newarray .int, 2) := by decide +kernel
theorem dX5_init_17 : decode cX5_init 17 = .ok (.putfield 15, 3) := by decide +kernel
theorem dX5_init_20 : decode cX5_init 20 = .ok (.aload_n 0, 1) := by decide +kernel
theorem dX5_init_21 : decode cX5_init 21 = .ok (.bipush 6, 2) := by decide +kernel
theorem dX5_init_23 : decode cX5_init 23 = .ok (.newarray .int, 2) := by decide +kernel
theorem dX5_init_25 : decode cX5_init 25 = .ok (.putfield 18, 3) := by decide +kernel
theorem dX5_init_28 : decode cX5_init 28 = .ok (.return_, 1) := by decide +kernel
theorem dX5_learn_0 : decode cX5_learn 0 = .ok (.aload_n 0, 1) := by decide +kernel
theorem dX5_learn_1 : decode cX5_learn 1 = .ok (.iconst 0, 1) := by decide +kernel
theorem dX5_learn_2 : decode cX5_learn 2 = .ok (.putfield 21, 3) := by decide +kernel
theorem dX5_learn_5 : decode cX5_learn 5 = .ok (.ldc 25, 2) := by decide +kernel
theorem dX5_learn_7 : decode cX5_learn 7 = .ok (.istore_n 3, 1) := by decide +kernel
theorem dX5_learn_8 : decode cX5_learn 8 = .ok (.iconst 0, 1) := by decide +kernel
theorem dX5_learn_9 : decode cX5_learn 9 = .ok (.istore 4, 2) := by decide +kernel
theorem dX5_learn_11 : decode cX5_learn 11 = .ok (.iload 4, 2) := by decide +kernel
theorem dX5_learn_13 : decode cX5_learn 13 = .ok (.iload_n 2, 1) := by decide +kernel
theorem dX5_learn_14 : decode cX5_learn 14 = .ok (.if_icmp .ge 82, 3) := by decide +kernel
theorem dX5_learn_17 : decode cX5_learn 17 = .ok (.iload 4, 2) := by decide +kernel
theorem dX5_learn_19 : decode cX5_learn 19 = .ok (.bipush 6, 2) := by decide +kernel
theorem dX5_learn_21 : decode cX5_learn 21 = .ok (.if_icmp .ge 75, 3) := by decide +kernel
theorem dX5_learn_24 : decode cX5_learn 24 = .ok (.aload_n 1, 1) := by decide +kernel
theorem dX5_learn_25 : decode cX5_learn 25 = .ok (.iload_n 3, 1) := by decide +kernel
theorem dX5_learn_26 : decode cX5_learn 26 = .ok (.invokestatic 26, 3) := by decide +kernel
theorem dX5_learn_29 : decode cX5_learn 29 = .ok (.istore_n 3, 1) := by decide +kernel
theorem dX5_learn_30 : decode cX5_learn 30 = .ok (.iload_n 3, 1) := by decide +kernel
theorem dX5_learn_31 : decode cX5_learn 31 = .ok (.ifCond .ne 4, 3) := by decide +kernel
theorem dX5_learn_34 : decode cX5_learn 34 = .ok (.return_, 1) := by decide +kernel
theorem dX5_learn_35 : decode cX5_learn 35 = .ok (.aload_n 0, 1) := by decide +kernel
theorem dX5_learn_36 : decode cX5_learn 36 = .ok (.getfield 9, 3) := by decide +kernel
theorem dX5_learn_39 : decode cX5_learn 39 = .ok (.iload 4, 2) := by decide +kernel
theorem dX5_learn_41 : decode cX5_learn 41 = .ok (.bipush 99, 2) := by decide +kernel
theorem dX5_learn_43 : decode cX5_learn 43 = .ok (.iload_n 3, 1) := by decide +kernel
theorem dX5_learn_44 : decode cX5_learn 44 = .ok (.bipush 100, 2) := by decide +kernel
theorem dX5_learn_46 : decode cX5_learn 46 = .ok (.idiv, 1) := by decide +kernel
theorem dX5_learn_47 : decode cX5_learn 47 = .ok (.bipush 100, 2) := by decide +kernel
theorem dX5_learn_49 : decode cX5_learn 49 = .ok (.irem, 1) := by decide +kernel
theorem dX5_learn_50 : decode cX5_learn 50 = .ok (.isub, 1) := by decide +kernel
theorem dX5_learn_51 : decode cX5_learn 51 = .ok (.iastore, 1) := by decide +kernel
theorem dX5_learn_52 : decode cX5_learn 52 = .ok (.aload_n 0, 1) := by decide +kernel
theorem dX5_learn_53 : decode cX5_learn 53 = .ok (.getfield 15, 3) := by decide +kernel
theorem dX5_learn_56 : decode cX5_learn 56 = .ok (.iload 4, 2) := by decide +kernel
theorem dX5_learn_58 : decode cX5_learn 58 = .ok (.bipush 99, 2) := by decide +kernel
theorem dX5_learn_60 : decode cX5_learn 60 = .ok (.iload_n 3, 1) := by decide +kernel
theorem dX5_learn_61 : decode cX5_learn 61 = .ok (.bipush 100, 2) := by decide +kernel
theorem dX5_learn_63 : decode cX5_learn 63 = .ok (.irem, 1) := by decide +kernel
theorem dX5_learn_64 : decode cX5_learn 64 = .ok (.isub, 1) := by decide +kernel
theorem dX5_learn_65 : decode cX5_learn 65 = .ok (.iastore, 1) := by decide +kernel
theorem dX5_learn_66 : decode cX5_learn 66 = .ok (.aload_n 0, 1) := by decide +kernel
theorem dX5_learn_67 : decode cX5_learn 67 = .ok (.getfield 18, 3) := by decide +kernel
theorem dX5_learn_70 : decode cX5_learn 70 = .ok (.iload 4, 2) := by decide +kernel
theorem dX5_learn_72 : decode cX5_learn 72 = .ok (.iload_n 3, 1) := by decide +kernel
theorem dX5_learn_73 : decode cX5_learn 73 = .ok (.bipush 100, 2) := by decide +kernel
theorem dX5_learn_75 : decode cX5_learn 75 = .ok (.idiv, 1) := by decide +kernel
theorem dX5_learn_76 : decode cX5_learn 76 = .ok (.bipush 100, 2) := by decide +kernel
theorem dX5_learn_78 : decode cX5_learn 78 = .ok (.idiv, 1) := by decide +kernel
theorem dX5_learn_79 : decode cX5_learn 79 = .ok (.iastore, 1) := by decide +kernel
theorem dX5_learn_80 : decode cX5_learn 80 = .ok (.aload_n 0, 1) := by decide +kernel
theorem dX5_learn_81 : decode cX5_learn 81 = .ok (.dup, 1) := by decide +kernel
theorem dX5_learn_82 : decode cX5_learn 82 = .ok (.getfield 21, 3) := by decide +kernel
theorem dX5_learn_85 : decode cX5_learn 85 = .ok (.iconst 1, 1) := by decide +kernel
theorem dX5_learn_86 : decode cX5_learn 86 = .ok (.iadd, 1) := by decide +kernel
theorem dX5_learn_87 : decode cX5_learn 87 = .ok (.putfield 21, 3) := by decide +kernel
theorem dX5_learn_90 : decode cX5_learn 90 = .ok (.iinc 4 1, 3) := by decide +kernel
theorem dX5_learn_93 : decode cX5_learn 93 = .ok (.goto (-82), 3) := by decide +kernel
theorem dX5_learn_96 : decode cX5_learn 96 = .ok (.return_, 1) := by decide +kernel
theorem dX5_nextRank_0 : decode cX5_nextRank 0 = .ok (.iconst 0, 1) := by decide +kernel
theorem dX5_nextRank_1 : decode cX5_nextRank 1 = .ok (.istore_n 2, 1) := by decide +kernel
theorem dX5_nextRank_2 : decode cX5_nextRank 2 = .ok (.iconst 0, 1) := by decide +kernel
theorem dX5_nextRank_3 : decode cX5_nextRank 3 = .ok (.istore_n 3, 1) := by decide +kernel
theorem dX5_nextRank_4 : decode cX5_nextRank 4 = .ok (.iload_n 3, 1) := by decide +kernel
theorem dX5_nextRank_5 : decode cX5_nextRank 5 = .ok (.aload_n 0, 1) := by decide +kernel
theorem dX5_nextRank_6 : decode cX5_nextRank 6 = .ok (.getfield 30, 3) := by decide +kernel
theorem dX5_nextRank_9 : decode cX5_nextRank 9 = .ok (.if_icmp .ge 75, 3) := by decide +kernel
theorem dX5_nextRank_12 : decode cX5_nextRank 12 = .ok (.aload_n 0, 1) := by decide +kernel
theorem dX5_nextRank_13 : decode cX5_nextRank 13 = .ok (.iload_n 3, 1) := by decide +kernel
theorem dX5_nextRank_14 : decode cX5_nextRank 14 = .ok (.invokevirtual 35, 3) := by decide +kernel
theorem dX5_nextRank_17 : decode cX5_nextRank 17 = .ok (.istore 4, 2) := by decide +kernel
theorem dX5_nextRank_19 : decode cX5_nextRank 19 = .ok (.bipush 99, 2) := by decide +kernel
theorem dX5_nextRank_21 : decode cX5_nextRank 21 = .ok (.aload_n 0, 1) := by decide +kernel
theorem dX5_nextRank_22 : decode cX5_nextRank 22 = .ok (.iload_n 3, 1) := by decide +kernel
theorem dX5_nextRank_23 : decode cX5_nextRank 23 = .ok (.iconst 0, 1) := by decide +kernel
theorem dX5_nextRank_24 : decode cX5_nextRank 24 = .ok (.invokevirtual 39, 3) := by decide +kernel
theorem dX5_nextRank_27 : decode cX5_nextRank 27 = .ok (.isub, 1) := by decide +kernel
theorem dX5_nextRank_28 : decode cX5_nextRank 28 = .ok (.istore 5, 2) := by decide +kernel
theorem dX5_nextRank_30 : decode cX5_nextRank 30 = .ok (.bipush 99, 2) := by decide +kernel
theorem dX5_nextRank_32 : decode cX5_nextRank 32 = .ok (.aload_n 0, 1) := by decide +kernel
theorem dX5_nextRank_33 : decode cX5_nextRank 33 = .ok (.iload_n 3, 1) := by decide +kernel
theorem dX5_nextRank_34 : decode cX5_nextRank 34 = .ok (.iconst 1, 1) := by decide +kernel
theorem dX5_nextRank_35 : decode cX5_nextRank 35 = .ok (.invokevirtual 39, 3) := by decide +kernel
theorem dX5_nextRank_38 : decode cX5_nextRank 38 = .ok (.isub, 1) := by decide +kernel
theorem dX5_nextRank_39 : decode cX5_nextRank 39 = .ok (.istore 6, 2) := by decide +kernel
theorem dX5_nextRank_41 : decode cX5_nextRank 41 = .ok (.iload 4, 2) := by decide +kernel
theorem dX5_nextRank_43 : decode cX5_nextRank 43 = .ok (.bipush 100, 2) := by decide +kernel
theorem dX5_nextRank_45 : decode cX5_nextRank 45 = .ok (.imul, 1) := by decide +kernel
theorem dX5_nextRank_46 : decode cX5_nextRank 46 = .ok (.iload 5, 2) := by decide +kernel
theorem dX5_nextRank_48 : decode cX5_nextRank 48 = .ok (.iadd, 1) := by decide +kernel
theorem dX5_nextRank_49 : decode cX5_nextRank 49 = .ok (.bipush 100, 2) := by decide +kernel
theorem dX5_nextRank_51 : decode cX5_nextRank 51 = .ok (.imul, 1) := by decide +kernel
theorem dX5_nextRank_52 : decode cX5_nextRank 52 = .ok (.iload 6, 2) := by decide +kernel
theorem dX5_nextRank_54 : decode cX5_nextRank 54 = .ok (.iadd, 1) := by decide +kernel
theorem dX5_nextRank_55 : decode cX5_nextRank 55 = .ok (.istore 7, 2) := by decide +kernel
theorem dX5_nextRank_57 : decode cX5_nextRank 57 = .ok (.iload 4, 2) := by decide +kernel
theorem dX5_nextRank_59 : decode cX5_nextRank 59 = .ok (.iconst 2, 1) := by decide +kernel
theorem dX5_nextRank_60 : decode cX5_nextRank 60 = .ok (.if_icmp .lt 18, 3) := by decide +kernel
theorem dX5_nextRank_63 : decode cX5_nextRank 63 = .ok (.iload 7, 2) := by decide +kernel
theorem dX5_nextRank_65 : decode cX5_nextRank 65 = .ok (.iload_n 1, 1) := by decide +kernel
theorem dX5_nextRank_66 : decode cX5_nextRank 66 = .ok (.if_icmp .ge 12, 3) := by decide +kernel
theorem dX5_nextRank_69 : decode cX5_nextRank 69 = .ok (.iload 7, 2) := by decide +kernel
theorem dX5_nextRank_71 : decode cX5_nextRank 71 = .ok (.iload_n 2, 1) := by decide +kernel
theorem dX5_nextRank_72 : decode cX5_nextRank 72 = .ok (.if_icmp .le 6, 3) := by decide +kernel
theorem dX5_nextRank_75 : decode cX5_nextRank 75 = .ok (.iload 7, 2) := by decide +kernel
theorem dX5_nextRank_77 : decode cX5_nextRank 77 = .ok (.istore_n 2, 1) := by decide +kernel
theorem dX5_nextRank_78 : decode cX5_nextRank 78 = .ok (.iinc 3 1, 3) := by decide +kernel
theorem dX5_nextRank_81 : decode cX5_nextRank 81 = .ok (.goto (-77), 3) := by decide +kernel
theorem dX5_nextRank_84 : decode cX5_nextRank 84 = .ok (.iload_n 2, 1) := by decide +kernel
theorem dX5_nextRank_85 : decode cX5_nextRank 85 = .ok (.ireturn, 1) := by decide +kernel
theorem dX5_tellPair_0 : decode cX5_tellPair 0 = .ok (.iload_n 1, 1) := by decide +kernel
theorem dX5_tellPair_1 : decode cX5_tellPair 1 = .ok (.ifCond .lt 11, 3) := by decide +kernel
theorem dX5_tellPair_4 : decode cX5_tellPair 4 = .ok (.iload_n 1, 1) := by decide +kernel
theorem dX5_tellPair_5 : decode cX5_tellPair 5 = .ok (.aload_n 0, 1) := by decide +kernel
theorem dX5_tellPair_6 : decode cX5_tellPair 6 = .ok (.getfield 21, 3) := by decide +kernel
theorem dX5_tellPair_9 : decode cX5_tellPair 9 = .ok (.if_icmp .lt 5, 3) := by decide +kernel
theorem dX5_tellPair_12 : decode cX5_tellPair 12 = .ok (.iconst (-1), 1) := by decide +kernel
theorem dX5_tellPair_13 : decode cX5_tellPair 13 = .ok (.ireturn, 1) := by decide +kernel
theorem dX5_tellPair_14 : decode cX5_tellPair 14 = .ok (.iload_n 2, 1) := by decide +kernel
theorem dX5_tellPair_15 : decode cX5_tellPair 15 = .ok (.lookupswitch 39 #[(0, 25), (1, 32)], 25) := by decide +kernel
theorem dX5_tellPair_40 : decode cX5_tellPair 40 = .ok (.aload_n 0, 1) := by decide +kernel
theorem dX5_tellPair_41 : decode cX5_tellPair 41 = .ok (.getfield 9, 3) := by decide +kernel
theorem dX5_tellPair_44 : decode cX5_tellPair 44 = .ok (.iload_n 1, 1) := by decide +kernel
theorem dX5_tellPair_45 : decode cX5_tellPair 45 = .ok (.iaload, 1) := by decide +kernel
theorem dX5_tellPair_46 : decode cX5_tellPair 46 = .ok (.ireturn, 1) := by decide +kernel
theorem dX5_tellPair_47 : decode cX5_tellPair 47 = .ok (.aload_n 0, 1) := by decide +kernel
theorem dX5_tellPair_48 : decode cX5_tellPair 48 = .ok (.getfield 15, 3) := by decide +kernel
theorem dX5_tellPair_51 : decode cX5_tellPair 51 = .ok (.iload_n 1, 1) := by decide +kernel
theorem dX5_tellPair_52 : decode cX5_tellPair 52 = .ok (.iaload, 1) := by decide +kernel
theorem dX5_tellPair_53 : decode cX5_tellPair 53 = .ok (.ireturn, 1) := by decide +kernel
theorem dX5_tellPair_54 : decode cX5_tellPair 54 = .ok (.aload_n 0, 1) := by decide +kernel
theorem dX5_tellPair_55 : decode cX5_tellPair 55 = .ok (.getfield 18, 3) := by decide +kernel
theorem dX5_tellPair_58 : decode cX5_tellPair 58 = .ok (.iload_n 1, 1) := by decide +kernel
theorem dX5_tellPair_59 : decode cX5_tellPair 59 = .ok (.iaload, 1) := by decide +kernel
theorem dX5_tellPair_60 : decode cX5_tellPair 60 = .ok (.ireturn, 1) := by decide +kernel
theorem dX5_rowsInside_0 : decode cX5_rowsInside 0 = .ok (.iconst 0, 1) := by decide +kernel
theorem dX5_rowsInside_1 : decode cX5_rowsInside 1 = .ok (.istore 5, 2) := by decide +kernel
theorem dX5_rowsInside_3 : decode cX5_rowsInside 3 = .ok (.iconst 0, 1) := by decide +kernel
theorem dX5_rowsInside_4 : decode cX5_rowsInside 4 = .ok (.istore 6, 2) := by decide +kernel
theorem dX5_rowsInside_6 : decode cX5_rowsInside 6 = .ok (.iload 6, 2) := by decide +kernel
theorem dX5_rowsInside_8 : decode cX5_rowsInside 8 = .ok (.aload_n 0, 1) := by decide +kernel
theorem dX5_rowsInside_9 : decode cX5_rowsInside 9 = .ok (.getfield 21, 3) := by decide +kernel
theorem dX5_rowsInside_12 : decode cX5_rowsInside 12 = .ok (.if_icmp .ge 52, 3) := by decide +kernel
theorem dX5_rowsInside_15 : decode cX5_rowsInside 15 = .ok (.aload_n 0, 1) := by decide +kernel
theorem dX5_rowsInside_16 : decode cX5_rowsInside 16 = .ok (.getfield 9, 3) := by decide +kernel
theorem dX5_rowsInside_19 : decode cX5_rowsInside 19 = .ok (.iload 6, 2) := by decide +kernel
theorem dX5_rowsInside_21 : decode cX5_rowsInside 21 = .ok (.iaload, 1) := by decide +kernel
theorem dX5_rowsInside_22 : decode cX5_rowsInside 22 = .ok (.iload_n 1, 1) := by decide +kernel
theorem dX5_rowsInside_23 : decode cX5_rowsInside 23 = .ok (.iload_n 2, 1) := by decide +kernel
theorem dX5_rowsInside_24 : decode cX5_rowsInside 24 = .ok (.invokestatic 43, 3) := by decide +kernel
theorem dX5_rowsInside_27 : decode cX5_rowsInside 27 = .ok (.ifCond .eq 31, 3) := by decide +kernel
theorem dX5_rowsInside_30 : decode cX5_rowsInside 30 = .ok (.aload_n 0, 1) := by decide +kernel
theorem dX5_rowsInside_31 : decode cX5_rowsInside 31 = .ok (.getfield 15, 3) := by decide +kernel
theorem dX5_rowsInside_34 : decode cX5_rowsInside 34 = .ok (.iload 6, 2) := by decide +kernel
theorem dX5_rowsInside_36 : decode cX5_rowsInside 36 = .ok (.iaload, 1) := by decide +kernel
theorem dX5_rowsInside_37 : decode cX5_rowsInside 37 = .ok (.iload_n 3, 1) := by decide +kernel
theorem dX5_rowsInside_38 : decode cX5_rowsInside 38 = .ok (.iload 4, 2) := by decide +kernel
theorem dX5_rowsInside_40 : decode cX5_rowsInside 40 = .ok (.invokestatic 43, 3) := by decide +kernel
theorem dX5_rowsInside_43 : decode cX5_rowsInside 43 = .ok (.ifCond .eq 15, 3) := by decide +kernel
theorem dX5_rowsInside_46 : decode cX5_rowsInside 46 = .ok (.iload 5, 2) := by decide +kernel
theorem dX5_rowsInside_48 : decode cX5_rowsInside 48 = .ok (.aload_n 0, 1) := by decide +kernel
theorem dX5_rowsInside_49 : decode cX5_rowsInside 49 = .ok (.getfield 18, 3) := by decide +kernel
theorem dX5_rowsInside_52 : decode cX5_rowsInside 52 = .ok (.iload 6, 2) := by decide +kernel
theorem dX5_rowsInside_54 : decode cX5_rowsInside 54 = .ok (.iaload, 1) := by decide +kernel
theorem dX5_rowsInside_55 : decode cX5_rowsInside 55 = .ok (.iadd, 1) := by decide +kernel
theorem dX5_rowsInside_56 : decode cX5_rowsInside 56 = .ok (.istore 5, 2) := by decide +kernel
theorem dX5_rowsInside_58 : decode cX5_rowsInside 58 = .ok (.iinc 6 1, 3) := by decide +kernel
theorem dX5_rowsInside_61 : decode cX5_rowsInside 61 = .ok (.goto (-55), 3) := by decide +kernel
theorem dX5_rowsInside_64 : decode cX5_rowsInside 64 = .ok (.iload 5, 2) := by decide +kernel
theorem dX5_rowsInside_66 : decode cX5_rowsInside 66 = .ok (.ireturn, 1) := by decide +kernel
theorem dX5_copyFrom_0 : decode cX5_copyFrom 0 = .ok (.aload_n 1, 1) := by decide +kernel
theorem dX5_copyFrom_1 : decode cX5_copyFrom 1 = .ok (.getfield 9, 3) := by decide +kernel
theorem dX5_copyFrom_4 : decode cX5_copyFrom 4 = .ok (.aload_n 0, 1) := by decide +kernel
theorem dX5_copyFrom_5 : decode cX5_copyFrom 5 = .ok (.getfield 9, 3) := by decide +kernel
theorem dX5_copyFrom_8 : decode cX5_copyFrom 8 = .ok (.invokestatic 47, 3) := by decide +kernel
theorem dX5_copyFrom_11 : decode cX5_copyFrom 11 = .ok (.aload_n 1, 1) := by decide +kernel
theorem dX5_copyFrom_12 : decode cX5_copyFrom 12 = .ok (.getfield 15, 3) := by decide +kernel
theorem dX5_copyFrom_15 : decode cX5_copyFrom 15 = .ok (.aload_n 0, 1) := by decide +kernel
theorem dX5_copyFrom_16 : decode cX5_copyFrom 16 = .ok (.getfield 15, 3) := by decide +kernel
theorem dX5_copyFrom_19 : decode cX5_copyFrom 19 = .ok (.invokestatic 47, 3) := by decide +kernel
theorem dX5_copyFrom_22 : decode cX5_copyFrom 22 = .ok (.aload_n 1, 1) := by decide +kernel
theorem dX5_copyFrom_23 : decode cX5_copyFrom 23 = .ok (.getfield 18, 3) := by decide +kernel
theorem dX5_copyFrom_26 : decode cX5_copyFrom 26 = .ok (.aload_n 0, 1) := by decide +kernel
theorem dX5_copyFrom_27 : decode cX5_copyFrom 27 = .ok (.getfield 18, 3) := by decide +kernel
theorem dX5_copyFrom_30 : decode cX5_copyFrom 30 = .ok (.invokestatic 47, 3) := by decide +kernel
theorem dX5_copyFrom_33 : decode cX5_copyFrom 33 = .ok (.aload_n 0, 1) := by decide +kernel
theorem dX5_copyFrom_34 : decode cX5_copyFrom 34 = .ok (.aload_n 1, 1) := by decide +kernel
theorem dX5_copyFrom_35 : decode cX5_copyFrom 35 = .ok (.getfield 21, 3) := by decide +kernel
theorem dX5_copyFrom_38 : decode cX5_copyFrom 38 = .ok (.putfield 21, 3) := by decide +kernel
theorem dX5_copyFrom_41 : decode cX5_copyFrom 41 = .ok (.return_, 1) := by decide +kernel
theorem dX6_init_0 : decode cX6_init 0 = .ok (.aload_n 0, 1) := by decide +kernel
theorem dX6_init_1 : decode cX6_init 1 = .ok (.invokespecial 3, 3) := by decide +kernel
theorem dX6_init_4 : decode cX6_init 4 = .ok (.aload_n 0, 1) := by decide +kernel
theorem dX6_init_5 : decode cX6_init 5 = .ok (.aload_n 1, 1) := by decide +kernel
theorem dX6_init_6 : decode cX6_init 6 = .ok (.putfield 9, 3) := by decide +kernel
theorem dX6_init_9 : decode cX6_init 9 = .ok (.return_, 1) := by decide +kernel
theorem dX6_start_0 : decode cX6_start 0 = .ok (.aload_n 0, 1) := by decide +kernel
theorem dX6_start_1 : decode cX6_start 1 = .ok (.iconst 0, 1) := by decide +kernel
theorem dX6_start_2 : decode cX6_start 2 = .ok (.putfield 15, 3) := by decide +kernel
theorem dX6_start_5 : decode cX6_start 5 = .ok (.return_, 1) := by decide +kernel
theorem dX6_findFault_0 : decode cX6_findFault 0 = .ok (.aload_n 0, 1) := by decide +kernel
theorem dX6_findFault_1 : decode cX6_findFault 1 = .ok (.invokevirtual 19, 3) := by decide +kernel
theorem dX6_findFault_4 : decode cX6_findFault 4 = .ok (.iconst 0, 1) := by decide +kernel
theorem dX6_findFault_5 : decode cX6_findFault 5 = .ok (.istore_n 1, 1) := by decide +kernel
theorem dX6_findFault_6 : decode cX6_findFault 6 = .ok (.iload_n 1, 1) := by decide +kernel
theorem dX6_findFault_7 : decode cX6_findFault 7 = .ok (.bipush 80, 2) := by decide +kernel
theorem dX6_findFault_9 : decode cX6_findFault 9 = .ok (.if_icmp .ge 52, 3) := by decide +kernel
theorem dX6_findFault_12 : decode cX6_findFault 12 = .ok (.aload_n 0, 1) := by decide +kernel
theorem dX6_findFault_13 : decode cX6_findFault 13 = .ok (.invokevirtual 22, 3) := by decide +kernel
theorem dX6_findFault_16 : decode cX6_findFault 16 = .ok (.ifCond .ne 8, 3) := by decide +kernel
theorem dX6_findFault_19 : decode cX6_findFault 19 = .ok (.aload_n 0, 1) := by decide +kernel
theorem dX6_findFault_20 : decode cX6_findFault 20 = .ok (.getfield 15, 3) := by decide +kernel
theorem dX6_findFault_23 : decode cX6_findFault 23 = .ok (.ireturn, 1) := by decide +kernel
theorem dX6_findFault_24 : decode cX6_findFault 24 = .ok (.aload_n 0, 1) := by decide +kernel
theorem dX6_findFault_25 : decode cX6_findFault 25 = .ok (.getfield 15, 3) := by decide +kernel
theorem dX6_findFault_28 : decode cX6_findFault 28 = .ok (.aload_n 0, 1) := by decide +kernel
theorem dX6_findFault_29 : decode cX6_findFault 29 = .ok (.getfield 9, 3) := by decide +kernel
theorem dX6_findFault_32 : decode cX6_findFault 32 = .ok (.getfield 26, 3) := by decide +kernel
theorem dX6_findFault_35 : decode cX6_findFault 35 = .ok (.if_icmp .ne 6, 3) := by decide +kernel
theorem dX6_findFault_38 : decode cX6_findFault 38 = .ok (.bipush (-6), 2) := by decide +kernel
theorem dX6_findFault_40 : decode cX6_findFault 40 = .ok (.ireturn, 1) := by decide +kernel
theorem dX6_findFault_41 : decode cX6_findFault 41 = .ok (.aload_n 0, 1) := by decide +kernel
theorem dX6_findFault_42 : decode cX6_findFault 42 = .ok (.bipush 59, 2) := by decide +kernel
theorem dX6_findFault_44 : decode cX6_findFault 44 = .ok (.invokevirtual 31, 3) := by decide +kernel
theorem dX6_findFault_47 : decode cX6_findFault 47 = .ok (.ifCond .ne 8, 3) := by decide +kernel
theorem dX6_findFault_50 : decode cX6_findFault 50 = .ok (.aload_n 0, 1) := by decide +kernel
theorem dX6_findFault_51 : decode cX6_findFault 51 = .ok (.getfield 15, 3) := by decide +kernel
theorem dX6_findFault_54 : decode cX6_findFault 54 = .ok (.ireturn, 1) := by decide +kernel
theorem dX6_findFault_55 : decode cX6_findFault 55 = .ok (.iinc 1 1, 3) := by decide +kernel
theorem dX6_findFault_58 : decode cX6_findFault 58 = .ok (.goto (-52), 3) := by decide +kernel
theorem dX6_findFault_61 : decode cX6_findFault 61 = .ok (.aload_n 0, 1) := by decide +kernel
theorem dX6_findFault_62 : decode cX6_findFault 62 = .ok (.getfield 15, 3) := by decide +kernel
theorem dX6_findFault_65 : decode cX6_findFault 65 = .ok (.ireturn, 1) := by decide +kernel
theorem dX6_readOrder_0 : decode cX6_readOrder 0 = .ok (.aload_n 0, 1) := by decide +kernel
theorem dX6_readOrder_1 : decode cX6_readOrder 1 = .ok (.aload_n 0, 1) := by decide +kernel
theorem dX6_readOrder_2 : decode cX6_readOrder 2 = .ok (.getfield 9, 3) := by decide +kernel
theorem dX6_readOrder_5 : decode cX6_readOrder 5 = .ok (.aload_n 0, 1) := by decide +kernel
theorem dX6_readOrder_6 : decode cX6_readOrder 6 = .ok (.getfield 15, 3) := by decide +kernel
theorem dX6_readOrder_9 : decode cX6_readOrder 9 = .ok (.invokevirtual 35, 3) := by decide +kernel
theorem dX6_readOrder_12 : decode cX6_readOrder 12 = .ok (.putfield 39, 3) := by decide +kernel
theorem dX6_readOrder_15 : decode cX6_readOrder 15 = .ok (.aload_n 0, 1) := by decide +kernel
theorem dX6_readOrder_16 : decode cX6_readOrder 16 = .ok (.getfield 39, 3) := by decide +kernel
theorem dX6_readOrder_19 : decode cX6_readOrder 19 = .ok (.lookupswitch 115 #[(43, 57), (45, 84), (97, 72), (98, 84), (99, 84), (112, 84)], 57) := by decide +kernel
theorem dX6_readOrder_76 : decode cX6_readOrder 76 = .ok (.aload_n 0, 1) := by decide +kernel
theorem dX6_readOrder_77 : decode cX6_readOrder 77 = .ok (.dup, 1) := by decide +kernel
theorem dX6_readOrder_78 : decode cX6_readOrder 78 = .ok (.getfield 15, 3) := by decide +kernel
theorem dX6_readOrder_81 : decode cX6_readOrder 81 = .ok (.iconst 1, 1) := by decide +kernel
theorem dX6_readOrder_82 : decode cX6_readOrder 82 = .ok (.iadd, 1) := by decide +kernel
theorem dX6_readOrder_83 : decode cX6_readOrder 83 = .ok (.putfield 15, 3) := by decide +kernel
theorem dX6_readOrder_86 : decode cX6_readOrder 86 = .ok (.aload_n 0, 1) := by decide +kernel
theorem dX6_readOrder_87 : decode cX6_readOrder 87 = .ok (.invokevirtual 43, 3) := by decide +kernel
theorem dX6_readOrder_90 : decode cX6_readOrder 90 = .ok (.ireturn, 1) := by decide +kernel
theorem dX6_readOrder_91 : decode cX6_readOrder 91 = .ok (.aload_n 0, 1) := by decide +kernel
theorem dX6_readOrder_92 : decode cX6_readOrder 92 = .ok (.dup, 1) := by decide +kernel
theorem dX6_readOrder_93 : decode cX6_readOrder 93 = .ok (.getfield 15, 3) := by decide +kernel
theorem dX6_readOrder_96 : decode cX6_readOrder 96 = .ok (.iconst 1, 1) := by decide +kernel
theorem dX6_readOrder_97 : decode cX6_readOrder 97 = .ok (.iadd, 1) := by decide +kernel
theorem dX6_readOrder_98 : decode cX6_readOrder 98 = .ok (.putfield 15, 3) := by decide +kernel
theorem dX6_readOrder_101 : decode cX6_readOrder 101 = .ok (.iconst 1, 1) := by decide +kernel
theorem dX6_readOrder_102 : decode cX6_readOrder 102 = .ok (.ireturn, 1) := by decide +kernel
theorem dX6_readOrder_103 : decode cX6_readOrder 103 = .ok (.aload_n 0, 1) := by decide +kernel
theorem dX6_readOrder_104 : decode cX6_readOrder 104 = .ok (.dup, 1) := by decide +kernel
theorem dX6_readOrder_105 : decode cX6_readOrder 105 = .ok (.getfield 15, 3) := by decide +kernel
theorem dX6_readOrder_108 : decode cX6_readOrder 108 = .ok (.iconst 1, 1) := by decide +kernel
theorem dX6_readOrder_109 : decode cX6_readOrder 109 = .ok (.iadd, 1) := by decide +kernel
theorem dX6_readOrder_110 : decode cX6_readOrder 110 = .ok (.putfield 15, 3) := by decide +kernel
theorem dX6_readOrder_113 : decode cX6_readOrder 113 = .ok (.aload_n 0, 1) := by decide +kernel
theorem dX6_readOrder_114 : decode cX6_readOrder 114 = .ok (.aload_n 0, 1) := by decide +kernel
theorem dX6_readOrder_115 : decode cX6_readOrder 115 = .ok (.invokevirtual 46, 3) := by decide +kernel
theorem dX6_readOrder_118 : decode cX6_readOrder 118 = .ok (.putfield 50, 3) := by decide +kernel
theorem dX6_readOrder_121 : decode cX6_readOrder 121 = .ok (.aload_n 0, 1) := by decide +kernel
theorem dX6_readOrder_122 : decode cX6_readOrder 122 = .ok (.getfield 50, 3) := by decide +kernel
theorem dX6_readOrder_125 : decode cX6_readOrder 125 = .ok (.ifCond .lt 7, 3) := by decide +kernel
theorem dX6_readOrder_128 : decode cX6_readOrder 128 = .ok (.iconst 1, 1) := by decide +kernel
theorem dX6_readOrder_129 : decode cX6_readOrder 129 = .ok (.goto 4, 3) := by decide +kernel
theorem dX6_readOrder_132 : decode cX6_readOrder 132 = .ok (.iconst 0, 1) := by decide +kernel
theorem dX6_readOrder_133 : decode cX6_readOrder 133 = .ok (.ireturn, 1) := by decide +kernel
theorem dX6_readOrder_134 : decode cX6_readOrder 134 = .ok (.iconst 0, 1) := by decide +kernel
theorem dX6_readOrder_135 : decode cX6_readOrder 135 = .ok (.ireturn, 1) := by decide +kernel
theorem dX6_readRow_0 : decode cX6_readRow 0 = .ok (.aload_n 0, 1) := by decide +kernel
theorem dX6_readRow_1 : decode cX6_readRow 1 = .ok (.aload_n 0, 1) := by decide +kernel
theorem dX6_readRow_2 : decode cX6_readRow 2 = .ok (.invokevirtual 46, 3) := by decide +kernel
theorem dX6_readRow_5 : decode cX6_readRow 5 = .ok (.putfield 50, 3) := by decide +kernel
theorem dX6_readRow_8 : decode cX6_readRow 8 = .ok (.aload_n 0, 1) := by decide +kernel
theorem dX6_readRow_9 : decode cX6_readRow 9 = .ok (.getfield 50, 3) := by decide +kernel
theorem dX6_readRow_12 : decode cX6_readRow 12 = .ok (.ifCond .lt 12, 3) := by decide +kernel
theorem dX6_readRow_15 : decode cX6_readRow 15 = .ok (.aload_n 0, 1) := by decide +kernel
theorem dX6_readRow_16 : decode cX6_readRow 16 = .ok (.bipush 44, 2) := by decide +kernel
theorem dX6_readRow_18 : decode cX6_readRow 18 = .ok (.invokevirtual 31, 3) := by decide +kernel
theorem dX6_readRow_21 : decode cX6_readRow 21 = .ok (.ifCond .ne 5, 3) := by decide +kernel
theorem dX6_readRow_24 : decode cX6_readRow 24 = .ok (.iconst 0, 1) := by decide +kernel
theorem dX6_readRow_25 : decode cX6_readRow 25 = .ok (.ireturn, 1) := by decide +kernel
theorem dX6_readRow_26 : decode cX6_readRow 26 = .ok (.aload_n 0, 1) := by decide +kernel
theorem dX6_readRow_27 : decode cX6_readRow 27 = .ok (.aload_n 0, 1) := by decide +kernel
theorem dX6_readRow_28 : decode cX6_readRow 28 = .ok (.invokevirtual 46, 3) := by decide +kernel
theorem dX6_readRow_31 : decode cX6_readRow 31 = .ok (.putfield 53, 3) := by decide +kernel
theorem dX6_readRow_34 : decode cX6_readRow 34 = .ok (.aload_n 0, 1) := by decide +kernel
theorem dX6_readRow_35 : decode cX6_readRow 35 = .ok (.getfield 53, 3) := by decide +kernel
theorem dX6_readRow_38 : decode cX6_readRow 38 = .ok (.ifCond .lt 14, 3) := by decide +kernel
theorem dX6_readRow_41 : decode cX6_readRow 41 = .ok (.aload_n 0, 1) := by decide +kernel
theorem dX6_readRow_42 : decode cX6_readRow 42 = .ok (.invokevirtual 56, 3) := by decide +kernel
theorem dX6_readRow_45 : decode cX6_readRow 45 = .ok (.ifCond .eq 7, 3) := by decide +kernel
theorem dX6_readRow_48 : decode cX6_readRow 48 = .ok (.iconst 1, 1) := by decide +kernel
theorem dX6_readRow_49 : decode cX6_readRow 49 = .ok (.goto 4, 3) := by decide +kernel

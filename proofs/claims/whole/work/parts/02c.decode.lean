theorem dX10_undo_32 : decode cX10_undo 32 = .ok (.aload_n 0, 1) := by decide +kernel
theorem dX10_undo_33 : decode cX10_undo 33 = .ok (.getfield 7, 3) := by decide +kernel
theorem dX10_undo_36 : decode cX10_undo 36 = .ok (.iconst 0, 1) := by decide +kernel
theorem dX10_undo_37 : decode cX10_undo 37 = .ok (.invokestatic 43, 3) := by decide +kernel
theorem dX10_undo_40 : decode cX10_undo 40 = .ok (.aload_n 0, 1) := by decide +kernel
theorem dX10_undo_41 : decode cX10_undo 41 = .ok (.getfield 39, 3) := by decide +kernel
theorem dX10_undo_44 : decode cX10_undo 44 = .ok (.ireturn, 1) := by decide +kernel
theorem dX10_save_0 : decode cX10_save 0 = .ok (.iload_n 1, 1) := by decide +kernel
theorem dX10_save_1 : decode cX10_save 1 = .ok (.iconst 0, 1) := by decide +kernel
theorem dX10_save_2 : decode cX10_save 2 = .ok (.iconst 1, 1) := by decide +kernel
theorem dX10_save_3 : decode cX10_save 3 = .ok (.invokestatic 35, 3) := by decide +kernel
theorem dX10_save_6 : decode cX10_save 6 = .ok (.ifCond .ne 6, 3) := by decide +kernel
theorem dX10_save_9 : decode cX10_save 9 = .ok (.bipush (-2), 2) := by decide +kernel
theorem dX10_save_11 : decode cX10_save 11 = .ok (.ireturn, 1) := by decide +kernel
theorem dX10_save_12 : decode cX10_save 12 = .ok (.aload_n 0, 1) := by decide +kernel
theorem dX10_save_13 : decode cX10_save 13 = .ok (.getfield 7, 3) := by decide +kernel
theorem dX10_save_16 : decode cX10_save 16 = .ok (.iconst 0, 1) := by decide +kernel
theorem dX10_save_17 : decode cX10_save 17 = .ok (.aload_n 0, 1) := by decide +kernel
theorem dX10_save_18 : decode cX10_save 18 = .ok (.getfield 19, 3) := by decide +kernel
theorem dX10_save_21 : decode cX10_save 21 = .ok (.sipush 455, 3) := by decide +kernel
theorem dX10_save_24 : decode cX10_save 24 = .ok (.iload_n 1, 1) := by decide +kernel
theorem dX10_save_25 : decode cX10_save 25 = .ok (.imul, 1) := by decide +kernel
theorem dX10_save_26 : decode cX10_save 26 = .ok (.invokestatic 43, 3) := by decide +kernel
theorem dX10_save_29 : decode cX10_save 29 = .ok (.aload_n 0, 1) := by decide +kernel
theorem dX10_save_30 : decode cX10_save 30 = .ok (.getfield 22, 3) := by decide +kernel
theorem dX10_save_33 : decode cX10_save 33 = .ok (.iload_n 1, 1) := by decide +kernel
theorem dX10_save_34 : decode cX10_save 34 = .ok (.iconst 1, 1) := by decide +kernel
theorem dX10_save_35 : decode cX10_save 35 = .ok (.bastore, 1) := by decide +kernel
theorem dX10_save_36 : decode cX10_save 36 = .ok (.aload_n 0, 1) := by decide +kernel
theorem dX10_save_37 : decode cX10_save 37 = .ok (.getfield 7, 3) := by decide +kernel
theorem dX10_save_40 : decode cX10_save 40 = .ok (.iconst 0, 1) := by decide +kernel
theorem dX10_save_41 : decode cX10_save 41 = .ok (.iaload, 1) := by decide +kernel
theorem dX10_save_42 : decode cX10_save 42 = .ok (.ireturn, 1) := by decide +kernel
theorem dX10_restore_0 : decode cX10_restore 0 = .ok (.iload_n 1, 1) := by decide +kernel
theorem dX10_restore_1 : decode cX10_restore 1 = .ok (.iconst 0, 1) := by decide +kernel
theorem dX10_restore_2 : decode cX10_restore 2 = .ok (.iconst 1, 1) := by decide +kernel
theorem dX10_restore_3 : decode cX10_restore 3 = .ok (.invokestatic 35, 3) := by decide +kernel
theorem dX10_restore_6 : decode cX10_restore 6 = .ok (.ifCond .ne 6, 3) := by decide +kernel
theorem dX10_restore_9 : decode cX10_restore 9 = .ok (.bipush (-2), 2) := by decide +kernel
theorem dX10_restore_11 : decode cX10_restore 11 = .ok (.ireturn, 1) := by decide +kernel
theorem dX10_restore_12 : decode cX10_restore 12 = .ok (.aload_n 0, 1) := by decide +kernel
theorem dX10_restore_13 : decode cX10_restore 13 = .ok (.getfield 22, 3) := by decide +kernel
theorem dX10_restore_16 : decode cX10_restore 16 = .ok (.iload_n 1, 1) := by decide +kernel
theorem dX10_restore_17 : decode cX10_restore 17 = .ok (.baload, 1) := by decide +kernel
theorem dX10_restore_18 : decode cX10_restore 18 = .ok (.ifCond .ne 6, 3) := by decide +kernel
theorem dX10_restore_21 : decode cX10_restore 21 = .ok (.bipush (-5), 2) := by decide +kernel
theorem dX10_restore_23 : decode cX10_restore 23 = .ok (.ireturn, 1) := by decide +kernel
theorem dX10_restore_24 : decode cX10_restore 24 = .ok (.aload_n 0, 1) := by decide +kernel
theorem dX10_restore_25 : decode cX10_restore 25 = .ok (.invokevirtual 47, 3) := by decide +kernel
theorem dX10_restore_28 : decode cX10_restore 28 = .ok (.aload_n 0, 1) := by decide +kernel
theorem dX10_restore_29 : decode cX10_restore 29 = .ok (.getfield 19, 3) := by decide +kernel
theorem dX10_restore_32 : decode cX10_restore 32 = .ok (.sipush 455, 3) := by decide +kernel
theorem dX10_restore_35 : decode cX10_restore 35 = .ok (.iload_n 1, 1) := by decide +kernel
theorem dX10_restore_36 : decode cX10_restore 36 = .ok (.imul, 1) := by decide +kernel
theorem dX10_restore_37 : decode cX10_restore 37 = .ok (.aload_n 0, 1) := by decide +kernel
theorem dX10_restore_38 : decode cX10_restore 38 = .ok (.getfield 7, 3) := by decide +kernel
theorem dX10_restore_41 : decode cX10_restore 41 = .ok (.iconst 0, 1) := by decide +kernel
theorem dX10_restore_42 : decode cX10_restore 42 = .ok (.invokestatic 43, 3) := by decide +kernel
theorem dX10_restore_45 : decode cX10_restore 45 = .ok (.aload_n 0, 1) := by decide +kernel
theorem dX10_restore_46 : decode cX10_restore 46 = .ok (.getfield 7, 3) := by decide +kernel
theorem dX10_restore_49 : decode cX10_restore 49 = .ok (.iconst 0, 1) := by decide +kernel
theorem dX10_restore_50 : decode cX10_restore 50 = .ok (.iaload, 1) := by decide +kernel
theorem dX10_restore_51 : decode cX10_restore 51 = .ok (.ireturn, 1) := by decide +kernel
theorem dX10_of_0 : decode cX10_of 0 = .ok (.aload_n 0, 1) := by decide +kernel
theorem dX10_of_1 : decode cX10_of 1 = .ok (.bipush 8, 2) := by decide +kernel
theorem dX10_of_3 : decode cX10_of 3 = .ok (.iconst 2, 1) := by decide +kernel
theorem dX10_of_4 : decode cX10_of 4 = .ok (.iload_n 1, 1) := by decide +kernel
theorem dX10_of_5 : decode cX10_of 5 = .ok (.imul, 1) := by decide +kernel
theorem dX10_of_6 : decode cX10_of 6 = .ok (.iadd, 1) := by decide +kernel
theorem dX10_of_7 : decode cX10_of 7 = .ok (.iload_n 2, 1) := by decide +kernel
theorem dX10_of_8 : decode cX10_of 8 = .ok (.iadd, 1) := by decide +kernel
theorem dX10_of_9 : decode cX10_of 9 = .ok (.iaload, 1) := by decide +kernel
theorem dX10_of_10 : decode cX10_of 10 = .ok (.ireturn, 1) := by decide +kernel
theorem dX10_had_0 : decode cX10_had 0 = .ok (.aload_n 0, 1) := by decide +kernel
theorem dX10_had_1 : decode cX10_had 1 = .ok (.sipush 255, 3) := by decide +kernel
theorem dX10_had_4 : decode cX10_had 4 = .ok (.bipush 100, 2) := by decide +kernel
theorem dX10_had_6 : decode cX10_had 6 = .ok (.iload_n 1, 1) := by decide +kernel
theorem dX10_had_7 : decode cX10_had 7 = .ok (.imul, 1) := by decide +kernel
theorem dX10_had_8 : decode cX10_had 8 = .ok (.iadd, 1) := by decide +kernel
theorem dX10_had_9 : decode cX10_had 9 = .ok (.iload_n 2, 1) := by decide +kernel
theorem dX10_had_10 : decode cX10_had 10 = .ok (.iadd, 1) := by decide +kernel
theorem dX10_had_11 : decode cX10_had 11 = .ok (.iaload, 1) := by decide +kernel
theorem dX10_had_12 : decode cX10_had 12 = .ok (.ireturn, 1) := by decide +kernel
theorem dX10_chooses_0 : decode cX10_chooses 0 = .ok (.iconst 0, 1) := by decide +kernel
theorem dX10_chooses_1 : decode cX10_chooses 1 = .ok (.istore_n 3, 1) := by decide +kernel
theorem dX10_chooses_2 : decode cX10_chooses 2 = .ok (.iload_n 3, 1) := by decide +kernel
theorem dX10_chooses_3 : decode cX10_chooses 3 = .ok (.bipush 100, 2) := by decide +kernel
theorem dX10_chooses_5 : decode cX10_chooses 5 = .ok (.if_icmp .ge 21, 3) := by decide +kernel
theorem dX10_chooses_8 : decode cX10_chooses 8 = .ok (.aload_n 0, 1) := by decide +kernel
theorem dX10_chooses_9 : decode cX10_chooses 9 = .ok (.getfield 32, 3) := by decide +kernel
theorem dX10_chooses_12 : decode cX10_chooses 12 = .ok (.iload_n 3, 1) := by decide +kernel
theorem dX10_chooses_13 : decode cX10_chooses 13 = .ok (.aload_n 1, 1) := by decide +kernel
theorem dX10_chooses_14 : decode cX10_chooses 14 = .ok (.iload_n 2, 1) := by decide +kernel
theorem dX10_chooses_15 : decode cX10_chooses 15 = .ok (.iload_n 3, 1) := by decide +kernel
theorem dX10_chooses_16 : decode cX10_chooses 16 = .ok (.invokestatic 50, 3) := by decide +kernel
theorem dX10_chooses_19 : decode cX10_chooses 19 = .ok (.iastore, 1) := by decide +kernel
theorem dX10_chooses_20 : decode cX10_chooses 20 = .ok (.iinc 3 1, 3) := by decide +kernel
theorem dX10_chooses_23 : decode cX10_chooses 23 = .ok (.goto (-21), 3) := by decide +kernel
theorem dX10_chooses_26 : decode cX10_chooses 26 = .ok (.aload_n 1, 1) := by decide +kernel
theorem dX10_chooses_27 : decode cX10_chooses 27 = .ok (.sipush 210, 3) := by decide +kernel
theorem dX10_chooses_30 : decode cX10_chooses 30 = .ok (.iload_n 2, 1) := by decide +kernel
theorem dX10_chooses_31 : decode cX10_chooses 31 = .ok (.iadd, 1) := by decide +kernel
theorem dX10_chooses_32 : decode cX10_chooses 32 = .ok (.iconst 0, 1) := by decide +kernel
theorem dX10_chooses_33 : decode cX10_chooses 33 = .ok (.iastore, 1) := by decide +kernel
theorem dX10_chooses_34 : decode cX10_chooses 34 = .ok (.iconst 1, 1) := by decide +kernel
theorem dX10_chooses_35 : decode cX10_chooses 35 = .ok (.istore_n 3, 1) := by decide +kernel
theorem dX10_chooses_36 : decode cX10_chooses 36 = .ok (.iload_n 3, 1) := by decide +kernel
theorem dX10_chooses_37 : decode cX10_chooses 37 = .ok (.ifCond .eq 143, 3) := by decide +kernel
theorem dX10_chooses_40 : decode cX10_chooses 40 = .ok (.aload_n 1, 1) := by decide +kernel
theorem dX10_chooses_41 : decode cX10_chooses 41 = .ok (.sipush 210, 3) := by decide +kernel
theorem dX10_chooses_44 : decode cX10_chooses 44 = .ok (.iload_n 2, 1) := by decide +kernel
theorem dX10_chooses_45 : decode cX10_chooses 45 = .ok (.iadd, 1) := by decide +kernel
theorem dX10_chooses_46 : decode cX10_chooses 46 = .ok (.iaload, 1) := by decide +kernel
theorem dX10_chooses_47 : decode cX10_chooses 47 = .ok (.aload_n 1, 1) := by decide +kernel
theorem dX10_chooses_48 : decode cX10_chooses 48 = .ok (.iconst 5, 1) := by decide +kernel
theorem dX10_chooses_49 : decode cX10_chooses 49 = .ok (.iaload, 1) := by decide +kernel
theorem dX10_chooses_50 : decode cX10_chooses 50 = .ok (.if_icmp .ge 130, 3) := by decide +kernel
theorem dX10_chooses_53 : decode cX10_chooses 53 = .ok (.iconst 0, 1) := by decide +kernel
theorem dX10_chooses_54 : decode cX10_chooses 54 = .ok (.istore 4, 2) := by decide +kernel
theorem dX10_chooses_56 : decode cX10_chooses 56 = .ok (.iconst 1, 1) := by decide +kernel
theorem dX10_chooses_57 : decode cX10_chooses 57 = .ok (.istore 5, 2) := by decide +kernel
theorem dX10_chooses_59 : decode cX10_chooses 59 = .ok (.iload 5, 2) := by decide +kernel
theorem dX10_chooses_61 : decode cX10_chooses 61 = .ok (.bipush 100, 2) := by decide +kernel
theorem dX10_chooses_63 : decode cX10_chooses 63 = .ok (.if_icmp .ge 35, 3) := by decide +kernel
theorem dX10_chooses_66 : decode cX10_chooses 66 = .ok (.aload_n 0, 1) := by decide +kernel
theorem dX10_chooses_67 : decode cX10_chooses 67 = .ok (.getfield 32, 3) := by decide +kernel
theorem dX10_chooses_70 : decode cX10_chooses 70 = .ok (.iload 5, 2) := by decide +kernel
theorem dX10_chooses_72 : decode cX10_chooses 72 = .ok (.iaload, 1) := by decide +kernel
theorem dX10_chooses_73 : decode cX10_chooses 73 = .ok (.aload_n 0, 1) := by decide +kernel
theorem dX10_chooses_74 : decode cX10_chooses 74 = .ok (.getfield 32, 3) := by decide +kernel
theorem dX10_chooses_77 : decode cX10_chooses 77 = .ok (.iload 4, 2) := by decide +kernel
theorem dX10_chooses_79 : decode cX10_chooses 79 = .ok (.iaload, 1) := by decide +kernel
theorem dX10_chooses_80 : decode cX10_chooses 80 = .ok (.if_icmp .le 8, 3) := by decide +kernel
theorem dX10_chooses_83 : decode cX10_chooses 83 = .ok (.iload 5, 2) := by decide +kernel
theorem dX10_chooses_85 : decode cX10_chooses 85 = .ok (.goto 5, 3) := by decide +kernel
theorem dX10_chooses_88 : decode cX10_chooses 88 = .ok (.iload 4, 2) := by decide +kernel
theorem dX10_chooses_90 : decode cX10_chooses 90 = .ok (.istore 4, 2) := by decide +kernel
theorem dX10_chooses_92 : decode cX10_chooses 92 = .ok (.iinc 5 1, 3) := by decide +kernel
theorem dX10_chooses_95 : decode cX10_chooses 95 = .ok (.goto (-36), 3) := by decide +kernel
theorem dX10_chooses_98 : decode cX10_chooses 98 = .ok (.aload_n 0, 1) := by decide +kernel
theorem dX10_chooses_99 : decode cX10_chooses 99 = .ok (.getfield 32, 3) := by decide +kernel
theorem dX10_chooses_102 : decode cX10_chooses 102 = .ok (.iload 4, 2) := by decide +kernel
theorem dX10_chooses_104 : decode cX10_chooses 104 = .ok (.iaload, 1) := by decide +kernel
theorem dX10_chooses_105 : decode cX10_chooses 105 = .ok (.iconst 2, 1) := by decide +kernel
theorem dX10_chooses_106 : decode cX10_chooses 106 = .ok (.if_icmp .lt 7, 3) := by decide +kernel
theorem dX10_chooses_109 : decode cX10_chooses 109 = .ok (.iconst 1, 1) := by decide +kernel
theorem dX10_chooses_110 : decode cX10_chooses 110 = .ok (.goto 4, 3) := by decide +kernel
theorem dX10_chooses_113 : decode cX10_chooses 113 = .ok (.iconst 0, 1) := by decide +kernel
theorem dX10_chooses_114 : decode cX10_chooses 114 = .ok (.istore_n 3, 1) := by decide +kernel
theorem dX10_chooses_115 : decode cX10_chooses 115 = .ok (.iload_n 3, 1) := by decide +kernel
theorem dX10_chooses_116 : decode cX10_chooses 116 = .ok (.ifCond .eq 61, 3) := by decide +kernel
theorem dX10_chooses_119 : decode cX10_chooses 119 = .ok (.sipush 212, 3) := by decide +kernel
theorem dX10_chooses_122 : decode cX10_chooses 122 = .ok (.bipush 12, 2) := by decide +kernel
theorem dX10_chooses_124 : decode cX10_chooses 124 = .ok (.iload_n 2, 1) := by decide +kernel
theorem dX10_chooses_125 : decode cX10_chooses 125 = .ok (.imul, 1) := by decide +kernel
theorem dX10_chooses_126 : decode cX10_chooses 126 = .ok (.iadd, 1) := by decide +kernel
theorem dX10_chooses_127 : decode cX10_chooses 127 = .ok (.iconst 2, 1) := by decide +kernel
theorem dX10_chooses_128 : decode cX10_chooses 128 = .ok (.aload_n 1, 1) := by decide +kernel
theorem dX10_chooses_129 : decode cX10_chooses 129 = .ok (.sipush 210, 3) := by decide +kernel
theorem dX10_chooses_132 : decode cX10_chooses 132 = .ok (.iload_n 2, 1) := by decide +kernel
theorem dX10_chooses_133 : decode cX10_chooses 133 = .ok (.iadd, 1) := by decide +kernel
theorem dX10_chooses_134 : decode cX10_chooses 134 = .ok (.iaload, 1) := by decide +kernel
theorem dX10_chooses_135 : decode cX10_chooses 135 = .ok (.imul, 1) := by decide +kernel
theorem dX10_chooses_136 : decode cX10_chooses 136 = .ok (.iadd, 1) := by decide +kernel
theorem dX10_chooses_137 : decode cX10_chooses 137 = .ok (.istore 5, 2) := by decide +kernel
theorem dX10_chooses_139 : decode cX10_chooses 139 = .ok (.aload_n 1, 1) := by decide +kernel
theorem dX10_chooses_140 : decode cX10_chooses 140 = .ok (.iload 5, 2) := by decide +kernel
theorem dX10_chooses_142 : decode cX10_chooses 142 = .ok (.iload 4, 2) := by decide +kernel
theorem dX10_chooses_144 : decode cX10_chooses 144 = .ok (.iastore, 1) := by decide +kernel
theorem dX10_chooses_145 : decode cX10_chooses 145 = .ok (.aload_n 1, 1) := by decide +kernel
theorem dX10_chooses_146 : decode cX10_chooses 146 = .ok (.iload 5, 2) := by decide +kernel
theorem dX10_chooses_148 : decode cX10_chooses 148 = .ok (.iconst 1, 1) := by decide +kernel
theorem dX10_chooses_149 : decode cX10_chooses 149 = .ok (.iadd, 1) := by decide +kernel
theorem dX10_chooses_150 : decode cX10_chooses 150 = .ok (.aload_n 0, 1) := by decide +kernel
theorem dX10_chooses_151 : decode cX10_chooses 151 = .ok (.getfield 32, 3) := by decide +kernel
theorem dX10_chooses_154 : decode cX10_chooses 154 = .ok (.iload 4, 2) := by decide +kernel
theorem dX10_chooses_156 : decode cX10_chooses 156 = .ok (.iaload, 1) := by decide +kernel
theorem dX10_chooses_157 : decode cX10_chooses 157 = .ok (.iastore, 1) := by decide +kernel
theorem dX10_chooses_158 : decode cX10_chooses 158 = .ok (.aload_n 0, 1) := by decide +kernel
theorem dX10_chooses_159 : decode cX10_chooses 159 = .ok (.getfield 32, 3) := by decide +kernel
theorem dX10_chooses_162 : decode cX10_chooses 162 = .ok (.iload 4, 2) := by decide +kernel
theorem dX10_chooses_164 : decode cX10_chooses 164 = .ok (.iconst 0, 1) := by decide +kernel
theorem dX10_chooses_165 : decode cX10_chooses 165 = .ok (.iastore, 1) := by decide +kernel
theorem dX10_chooses_166 : decode cX10_chooses 166 = .ok (.aload_n 1, 1) := by decide +kernel
theorem dX10_chooses_167 : decode cX10_chooses 167 = .ok (.sipush 210, 3) := by decide +kernel
theorem dX10_chooses_170 : decode cX10_chooses 170 = .ok (.iload_n 2, 1) := by decide +kernel
theorem dX10_chooses_171 : decode cX10_chooses 171 = .ok (.iadd, 1) := by decide +kernel
theorem dX10_chooses_172 : decode cX10_chooses 172 = .ok (.dup2, 1) := by decide +kernel
theorem dX10_chooses_173 : decode cX10_chooses 173 = .ok (.iaload, 1) := by decide +kernel
theorem dX10_chooses_174 : decode cX10_chooses 174 = .ok (.iconst 1, 1) := by decide +kernel
theorem dX10_chooses_175 : decode cX10_chooses 175 = .ok (.iadd, 1) := by decide +kernel
theorem dX10_chooses_176 : decode cX10_chooses 176 = .ok (.iastore, 1) := by decide +kernel
theorem dX10_chooses_177 : decode cX10_chooses 177 = .ok (.goto (-141), 3) := by decide +kernel
theorem dX10_chooses_180 : decode cX10_chooses 180 = .ok (.return_, 1) := by decide +kernel
theorem dX10_cuts_0 : decode cX10_cuts 0 = .ok (.iconst 0, 1) := by decide +kernel
theorem dX10_cuts_1 : decode cX10_cuts 1 = .ok (.istore_n 3, 1) := by decide +kernel
theorem dX10_cuts_2 : decode cX10_cuts 2 = .ok (.iconst 0, 1) := by decide +kernel
theorem dX10_cuts_3 : decode cX10_cuts 3 = .ok (.istore 4, 2) := by decide +kernel
theorem dX10_cuts_5 : decode cX10_cuts 5 = .ok (.iload 4, 2) := by decide +kernel
theorem dX10_cuts_7 : decode cX10_cuts 7 = .ok (.bipush 100, 2) := by decide +kernel
theorem dX10_cuts_9 : decode cX10_cuts 9 = .ok (.if_icmp .ge 19, 3) := by decide +kernel
theorem dX10_cuts_12 : decode cX10_cuts 12 = .ok (.iload_n 3, 1) := by decide +kernel
theorem dX10_cuts_13 : decode cX10_cuts 13 = .ok (.aload_n 0, 1) := by decide +kernel
theorem dX10_cuts_14 : decode cX10_cuts 14 = .ok (.getfield 32, 3) := by decide +kernel
theorem dX10_cuts_17 : decode cX10_cuts 17 = .ok (.iload 4, 2) := by decide +kernel
theorem dX10_cuts_19 : decode cX10_cuts 19 = .ok (.iaload, 1) := by decide +kernel
theorem dX10_cuts_20 : decode cX10_cuts 20 = .ok (.iadd, 1) := by decide +kernel
theorem dX10_cuts_21 : decode cX10_cuts 21 = .ok (.istore_n 3, 1) := by decide +kernel
theorem dX10_cuts_22 : decode cX10_cuts 22 = .ok (.iinc 4 1, 3) := by decide +kernel
theorem dX10_cuts_25 : decode cX10_cuts 25 = .ok (.goto (-20), 3) := by decide +kernel
theorem dX10_cuts_28 : decode cX10_cuts 28 = .ok (.iload_n 3, 1) := by decide +kernel
theorem dX10_cuts_29 : decode cX10_cuts 29 = .ok (.aload_n 1, 1) := by decide +kernel
theorem dX10_cuts_30 : decode cX10_cuts 30 = .ok (.iconst 4, 1) := by decide +kernel
theorem dX10_cuts_31 : decode cX10_cuts 31 = .ok (.iaload, 1) := by decide +kernel
theorem dX10_cuts_32 : decode cX10_cuts 32 = .ok (.if_icmp .ge 7, 3) := by decide +kernel
theorem dX10_cuts_35 : decode cX10_cuts 35 = .ok (.iload_n 3, 1) := by decide +kernel
theorem dX10_cuts_36 : decode cX10_cuts 36 = .ok (.goto 6, 3) := by decide +kernel
theorem dX10_cuts_39 : decode cX10_cuts 39 = .ok (.aload_n 1, 1) := by decide +kernel
theorem dX10_cuts_40 : decode cX10_cuts 40 = .ok (.iconst 4, 1) := by decide +kernel
theorem dX10_cuts_41 : decode cX10_cuts 41 = .ok (.iaload, 1) := by decide +kernel
theorem dX10_cuts_42 : decode cX10_cuts 42 = .ok (.istore 4, 2) := by decide +kernel
theorem dX10_cuts_44 : decode cX10_cuts 44 = .ok (.aload_n 1, 1) := by decide +kernel
theorem dX10_cuts_45 : decode cX10_cuts 45 = .ok (.sipush 128, 3) := by decide +kernel
theorem dX10_cuts_48 : decode cX10_cuts 48 = .ok (.iload_n 2, 1) := by decide +kernel
theorem dX10_cuts_49 : decode cX10_cuts 49 = .ok (.iadd, 1) := by decide +kernel
theorem dX10_cuts_50 : decode cX10_cuts 50 = .ok (.iload 4, 2) := by decide +kernel
theorem dX10_cuts_52 : decode cX10_cuts 52 = .ok (.iastore, 1) := by decide +kernel
theorem dX10_cuts_53 : decode cX10_cuts 53 = .ok (.iconst 0, 1) := by decide +kernel
theorem dX10_cuts_54 : decode cX10_cuts 54 = .ok (.istore 5, 2) := by decide +kernel
theorem dX10_cuts_56 : decode cX10_cuts 56 = .ok (.iconst 0, 1) := by decide +kernel
theorem dX10_cuts_57 : decode cX10_cuts 57 = .ok (.istore 6, 2) := by decide +kernel
theorem dX10_cuts_59 : decode cX10_cuts 59 = .ok (.iload 6, 2) := by decide +kernel
theorem dX10_cuts_61 : decode cX10_cuts 61 = .ok (.iload 4, 2) := by decide +kernel
theorem dX10_cuts_63 : decode cX10_cuts 63 = .ok (.if_icmp .ge 184, 3) := by decide +kernel
theorem dX10_cuts_66 : decode cX10_cuts 66 = .ok (.sipush 130, 3) := by decide +kernel
theorem dX10_cuts_69 : decode cX10_cuts 69 = .ok (.bipush 40, 2) := by decide +kernel
theorem dX10_cuts_71 : decode cX10_cuts 71 = .ok (.iload_n 2, 1) := by decide +kernel
theorem dX10_cuts_72 : decode cX10_cuts 72 = .ok (.imul, 1) := by decide +kernel
theorem dX10_cuts_73 : decode cX10_cuts 73 = .ok (.iadd, 1) := by decide +kernel
theorem dX10_cuts_74 : decode cX10_cuts 74 = .ok (.iconst 4, 1) := by decide +kernel
theorem dX10_cuts_75 : decode cX10_cuts 75 = .ok (.iload 6, 2) := by decide +kernel
theorem dX10_cuts_77 : decode cX10_cuts 77 = .ok (.imul, 1) := by decide +kernel
theorem dX10_cuts_78 : decode cX10_cuts 78 = .ok (.iadd, 1) := by decide +kernel
theorem dX10_cuts_79 : decode cX10_cuts 79 = .ok (.istore 7, 2) := by decide +kernel
theorem dX10_cuts_81 : decode cX10_cuts 81 = .ok (.iload_n 3, 1) := by decide +kernel
theorem dX10_cuts_82 : decode cX10_cuts 82 = .ok (.iload 4, 2) := by decide +kernel
theorem dX10_cuts_84 : decode cX10_cuts 84 = .ok (.idiv, 1) := by decide +kernel
theorem dX10_cuts_85 : decode cX10_cuts 85 = .ok (.iload 6, 2) := by decide +kernel
theorem dX10_cuts_87 : decode cX10_cuts 87 = .ok (.iload_n 3, 1) := by decide +kernel
theorem dX10_cuts_88 : decode cX10_cuts 88 = .ok (.iload 4, 2) := by decide +kernel
theorem dX10_cuts_90 : decode cX10_cuts 90 = .ok (.irem, 1) := by decide +kernel
theorem dX10_cuts_91 : decode cX10_cuts 91 = .ok (.if_icmp .ge 7, 3) := by decide +kernel
theorem dX10_cuts_94 : decode cX10_cuts 94 = .ok (.iconst 1, 1) := by decide +kernel
theorem dX10_cuts_95 : decode cX10_cuts 95 = .ok (.goto 4, 3) := by decide +kernel
theorem dX10_cuts_98 : decode cX10_cuts 98 = .ok (.iconst 0, 1) := by decide +kernel
theorem dX10_cuts_99 : decode cX10_cuts 99 = .ok (.iadd, 1) := by decide +kernel
theorem dX10_cuts_100 : decode cX10_cuts 100 = .ok (.istore 8, 2) := by decide +kernel
theorem dX10_cuts_102 : decode cX10_cuts 102 = .ok (.aload_n 1, 1) := by decide +kernel
theorem dX10_cuts_103 : decode cX10_cuts 103 = .ok (.iload 7, 2) := by decide +kernel
theorem dX10_cuts_105 : decode cX10_cuts 105 = .ok (.bipush (-6), 2) := by decide +kernel
theorem dX10_cuts_107 : decode cX10_cuts 107 = .ok (.iastore, 1) := by decide +kernel
theorem dX10_cuts_108 : decode cX10_cuts 108 = .ok (.aload_n 1, 1) := by decide +kernel
theorem dX10_cuts_109 : decode cX10_cuts 109 = .ok (.iload 7, 2) := by decide +kernel
theorem dX10_cuts_111 : decode cX10_cuts 111 = .ok (.iconst 2, 1) := by decide +kernel
theorem dX10_cuts_112 : decode cX10_cuts 112 = .ok (.iadd, 1) := by decide +kernel
theorem dX10_cuts_113 : decode cX10_cuts 113 = .ok (.iload 8, 2) := by decide +kernel
theorem dX10_cuts_115 : decode cX10_cuts 115 = .ok (.iastore, 1) := by decide +kernel
theorem dX10_cuts_116 : decode cX10_cuts 116 = .ok (.aload_n 1, 1) := by decide +kernel
theorem dX10_cuts_117 : decode cX10_cuts 117 = .ok (.iload 7, 2) := by decide +kernel
theorem dX10_cuts_119 : decode cX10_cuts 119 = .ok (.iconst 3, 1) := by decide +kernel
theorem dX10_cuts_120 : decode cX10_cuts 120 = .ok (.iadd, 1) := by decide +kernel
theorem dX10_cuts_121 : decode cX10_cuts 121 = .ok (.iconst 0, 1) := by decide +kernel
theorem dX10_cuts_122 : decode cX10_cuts 122 = .ok (.iastore, 1) := by decide +kernel
theorem dX10_cuts_123 : decode cX10_cuts 123 = .ok (.iload 8, 2) := by decide +kernel
theorem dX10_cuts_125 : decode cX10_cuts 125 = .ok (.ifCond .le 116, 3) := by decide +kernel
theorem dX10_cuts_128 : decode cX10_cuts 128 = .ok (.aload_n 0, 1) := by decide +kernel
theorem dX10_cuts_129 : decode cX10_cuts 129 = .ok (.getfield 32, 3) := by decide +kernel
theorem dX10_cuts_132 : decode cX10_cuts 132 = .ok (.iload 5, 2) := by decide +kernel
theorem dX10_cuts_134 : decode cX10_cuts 134 = .ok (.iaload, 1) := by decide +kernel
theorem dX10_cuts_135 : decode cX10_cuts 135 = .ok (.iload 8, 2) := by decide +kernel
theorem dX10_cuts_137 : decode cX10_cuts 137 = .ok (.if_icmp .ge 13, 3) := by decide +kernel
theorem dX10_cuts_140 : decode cX10_cuts 140 = .ok (.aload_n 0, 1) := by decide +kernel
theorem dX10_cuts_141 : decode cX10_cuts 141 = .ok (.getfield 32, 3) := by decide +kernel
theorem dX10_cuts_144 : decode cX10_cuts 144 = .ok (.iload 5, 2) := by decide +kernel
theorem dX10_cuts_146 : decode cX10_cuts 146 = .ok (.iaload, 1) := by decide +kernel
theorem dX10_cuts_147 : decode cX10_cuts 147 = .ok (.goto 5, 3) := by decide +kernel
theorem dX10_cuts_150 : decode cX10_cuts 150 = .ok (.iload 8, 2) := by decide +kernel
theorem dX10_cuts_152 : decode cX10_cuts 152 = .ok (.istore 9, 2) := by decide +kernel
theorem dX10_cuts_154 : decode cX10_cuts 154 = .ok (.iload 9, 2) := by decide +kernel
theorem dX10_cuts_156 : decode cX10_cuts 156 = .ok (.ifCond .le 62, 3) := by decide +kernel
theorem dX10_cuts_159 : decode cX10_cuts 159 = .ok (.aload_n 1, 1) := by decide +kernel
theorem dX10_cuts_160 : decode cX10_cuts 160 = .ok (.iload 7, 2) := by decide +kernel
theorem dX10_cuts_162 : decode cX10_cuts 162 = .ok (.aload_n 1, 1) := by decide +kernel
theorem dX10_cuts_163 : decode cX10_cuts 163 = .ok (.iload 7, 2) := by decide +kernel
theorem dX10_cuts_165 : decode cX10_cuts 165 = .ok (.iaload, 1) := by decide +kernel
theorem dX10_cuts_166 : decode cX10_cuts 166 = .ok (.bipush (-6), 2) := by decide +kernel
theorem dX10_cuts_168 : decode cX10_cuts 168 = .ok (.if_icmp .ne 8, 3) := by decide +kernel
theorem dX10_cuts_171 : decode cX10_cuts 171 = .ok (.iload 5, 2) := by decide +kernel
theorem dX10_cuts_173 : decode cX10_cuts 173 = .ok (.goto 7, 3) := by decide +kernel
theorem dX10_cuts_176 : decode cX10_cuts 176 = .ok (.aload_n 1, 1) := by decide +kernel
theorem dX10_cuts_177 : decode cX10_cuts 177 = .ok (.iload 7, 2) := by decide +kernel
theorem dX10_cuts_179 : decode cX10_cuts 179 = .ok (.iaload, 1) := by decide +kernel
theorem dX10_cuts_180 : decode cX10_cuts 180 = .ok (.iastore, 1) := by decide +kernel
theorem dX10_cuts_181 : decode cX10_cuts 181 = .ok (.aload_n 1, 1) := by decide +kernel
theorem dX10_cuts_182 : decode cX10_cuts 182 = .ok (.iload 7, 2) := by decide +kernel
theorem dX10_cuts_184 : decode cX10_cuts 184 = .ok (.iconst 1, 1) := by decide +kernel
theorem dX10_cuts_185 : decode cX10_cuts 185 = .ok (.iadd, 1) := by decide +kernel
theorem dX10_cuts_186 : decode cX10_cuts 186 = .ok (.iload 5, 2) := by decide +kernel
theorem dX10_cuts_188 : decode cX10_cuts 188 = .ok (.iastore, 1) := by decide +kernel
theorem dX10_cuts_189 : decode cX10_cuts 189 = .ok (.aload_n 1, 1) := by decide +kernel
theorem dX10_cuts_190 : decode cX10_cuts 190 = .ok (.iload 7, 2) := by decide +kernel
theorem dX10_cuts_192 : decode cX10_cuts 192 = .ok (.iconst 3, 1) := by decide +kernel
theorem dX10_cuts_193 : decode cX10_cuts 193 = .ok (.iadd, 1) := by decide +kernel
theorem dX10_cuts_194 : decode cX10_cuts 194 = .ok (.dup2, 1) := by decide +kernel
theorem dX10_cuts_195 : decode cX10_cuts 195 = .ok (.iaload, 1) := by decide +kernel
theorem dX10_cuts_196 : decode cX10_cuts 196 = .ok (.iconst 1, 1) := by decide +kernel
theorem dX10_cuts_197 : decode cX10_cuts 197 = .ok (.iadd, 1) := by decide +kernel
theorem dX10_cuts_198 : decode cX10_cuts 198 = .ok (.iastore, 1) := by decide +kernel
theorem dX10_cuts_199 : decode cX10_cuts 199 = .ok (.aload_n 0, 1) := by decide +kernel
theorem dX10_cuts_200 : decode cX10_cuts 200 = .ok (.getfield 32, 3) := by decide +kernel
theorem dX10_cuts_203 : decode cX10_cuts 203 = .ok (.iload 5, 2) := by decide +kernel
theorem dX10_cuts_205 : decode cX10_cuts 205 = .ok (.dup2, 1) := by decide +kernel
theorem dX10_cuts_206 : decode cX10_cuts 206 = .ok (.iaload, 1) := by decide +kernel
theorem dX10_cuts_207 : decode cX10_cuts 207 = .ok (.iload 9, 2) := by decide +kernel
theorem dX10_cuts_209 : decode cX10_cuts 209 = .ok (.isub, 1) := by decide +kernel
theorem dX10_cuts_210 : decode cX10_cuts 210 = .ok (.iastore, 1) := by decide +kernel
theorem dX10_cuts_211 : decode cX10_cuts 211 = .ok (.iload 8, 2) := by decide +kernel
theorem dX10_cuts_213 : decode cX10_cuts 213 = .ok (.iload 9, 2) := by decide +kernel
theorem dX10_cuts_215 : decode cX10_cuts 215 = .ok (.isub, 1) := by decide +kernel
theorem dX10_cuts_216 : decode cX10_cuts 216 = .ok (.istore 8, 2) := by decide +kernel
theorem dX10_cuts_218 : decode cX10_cuts 218 = .ok (.iload 5, 2) := by decide +kernel
theorem dX10_cuts_220 : decode cX10_cuts 220 = .ok (.aload_n 0, 1) := by decide +kernel
theorem dX10_cuts_221 : decode cX10_cuts 221 = .ok (.getfield 32, 3) := by decide +kernel
theorem dX10_cuts_224 : decode cX10_cuts 224 = .ok (.iload 5, 2) := by decide +kernel
theorem dX10_cuts_226 : decode cX10_cuts 226 = .ok (.iaload, 1) := by decide +kernel
theorem dX10_cuts_227 : decode cX10_cuts 227 = .ok (.ifCond .ne 7, 3) := by decide +kernel
theorem dX10_cuts_230 : decode cX10_cuts 230 = .ok (.iconst 1, 1) := by decide +kernel
theorem dX10_cuts_231 : decode cX10_cuts 231 = .ok (.goto 4, 3) := by decide +kernel
theorem dX10_cuts_234 : decode cX10_cuts 234 = .ok (.iconst 0, 1) := by decide +kernel
theorem dX10_cuts_235 : decode cX10_cuts 235 = .ok (.iadd, 1) := by decide +kernel
theorem dX10_cuts_236 : decode cX10_cuts 236 = .ok (.istore 5, 2) := by decide +kernel
theorem dX10_cuts_238 : decode cX10_cuts 238 = .ok (.goto (-115), 3) := by decide +kernel
theorem dX10_cuts_241 : decode cX10_cuts 241 = .ok (.iinc 6 1, 3) := by decide +kernel
theorem dX10_cuts_244 : decode cX10_cuts 244 = .ok (.goto (-185), 3) := by decide +kernel
theorem dX10_cuts_247 : decode cX10_cuts 247 = .ok (.return_, 1) := by decide +kernel
theorem dX10_rowsWith_0 : decode cX10_rowsWith 0 = .ok (.iconst 0, 1) := by decide +kernel
theorem dX10_rowsWith_1 : decode cX10_rowsWith 1 = .ok (.istore_n 3, 1) := by decide +kernel
theorem dX10_rowsWith_2 : decode cX10_rowsWith 2 = .ok (.iconst 0, 1) := by decide +kernel
theorem dX10_rowsWith_3 : decode cX10_rowsWith 3 = .ok (.istore 4, 2) := by decide +kernel
theorem dX10_rowsWith_5 : decode cX10_rowsWith 5 = .ok (.iload 4, 2) := by decide +kernel
theorem dX10_rowsWith_7 : decode cX10_rowsWith 7 = .ok (.aload_n 0, 1) := by decide +kernel
theorem dX10_rowsWith_8 : decode cX10_rowsWith 8 = .ok (.iconst 0, 1) := by decide +kernel
theorem dX10_rowsWith_9 : decode cX10_rowsWith 9 = .ok (.iaload, 1) := by decide +kernel
theorem dX10_rowsWith_10 : decode cX10_rowsWith 10 = .ok (.if_icmp .ge 39, 3) := by decide +kernel
theorem dX10_rowsWith_13 : decode cX10_rowsWith 13 = .ok (.iload_n 3, 1) := by decide +kernel
theorem dX10_rowsWith_14 : decode cX10_rowsWith 14 = .ok (.aload_n 0, 1) := by decide +kernel
theorem dX10_rowsWith_15 : decode cX10_rowsWith 15 = .ok (.iload 4, 2) := by decide +kernel
theorem dX10_rowsWith_17 : decode cX10_rowsWith 17 = .ok (.iconst 0, 1) := by decide +kernel
theorem dX10_rowsWith_18 : decode cX10_rowsWith 18 = .ok (.invokestatic 54, 3) := by decide +kernel
theorem dX10_rowsWith_21 : decode cX10_rowsWith 21 = .ok (.iload_n 1, 1) := by decide +kernel
theorem dX10_rowsWith_22 : decode cX10_rowsWith 22 = .ok (.if_icmp .ne 18, 3) := by decide +kernel
theorem dX10_rowsWith_25 : decode cX10_rowsWith 25 = .ok (.aload_n 0, 1) := by decide +kernel
theorem dX10_rowsWith_26 : decode cX10_rowsWith 26 = .ok (.iload 4, 2) := by decide +kernel
theorem dX10_rowsWith_28 : decode cX10_rowsWith 28 = .ok (.iconst 1, 1) := by decide +kernel
theorem dX10_rowsWith_29 : decode cX10_rowsWith 29 = .ok (.invokestatic 54, 3) := by decide +kernel
theorem dX10_rowsWith_32 : decode cX10_rowsWith 32 = .ok (.iload_n 2, 1) := by decide +kernel
theorem dX10_rowsWith_33 : decode cX10_rowsWith 33 = .ok (.if_icmp .ne 7, 3) := by decide +kernel
theorem dX10_rowsWith_36 : decode cX10_rowsWith 36 = .ok (.iconst 1, 1) := by decide +kernel
theorem dX10_rowsWith_37 : decode cX10_rowsWith 37 = .ok (.goto 4, 3) := by decide +kernel
theorem dX10_rowsWith_40 : decode cX10_rowsWith 40 = .ok (.iconst 0, 1) := by decide +kernel
theorem dX10_rowsWith_41 : decode cX10_rowsWith 41 = .ok (.iadd, 1) := by decide +kernel
theorem dX10_rowsWith_42 : decode cX10_rowsWith 42 = .ok (.istore_n 3, 1) := by decide +kernel
theorem dX10_rowsWith_43 : decode cX10_rowsWith 43 = .ok (.iinc 4 1, 3) := by decide +kernel
theorem dX10_rowsWith_46 : decode cX10_rowsWith 46 = .ok (.goto (-41), 3) := by decide +kernel
theorem dX10_rowsWith_49 : decode cX10_rowsWith 49 = .ok (.iload_n 3, 1) := by decide +kernel
theorem dX10_rowsWith_50 : decode cX10_rowsWith 50 = .ok (.ireturn, 1) := by decide +kernel
theorem dX10_isPaired_0 : decode cX10_isPaired 0 = .ok (.iconst 0, 1) := by decide +kernel
theorem dX10_isPaired_1 : decode cX10_isPaired 1 = .ok (.istore_n 3, 1) := by decide +kernel
theorem dX10_isPaired_2 : decode cX10_isPaired 2 = .ok (.iload_n 3, 1) := by decide +kernel
theorem dX10_isPaired_3 : decode cX10_isPaired 3 = .ok (.aload_n 0, 1) := by decide +kernel
theorem dX10_isPaired_4 : decode cX10_isPaired 4 = .ok (.sipush 236, 3) := by decide +kernel
theorem dX10_isPaired_7 : decode cX10_isPaired 7 = .ok (.iaload, 1) := by decide +kernel
theorem dX10_isPaired_8 : decode cX10_isPaired 8 = .ok (.if_icmp .ge 39, 3) := by decide +kernel
theorem dX10_isPaired_11 : decode cX10_isPaired 11 = .ok (.aload_n 0, 1) := by decide +kernel
theorem dX10_isPaired_12 : decode cX10_isPaired 12 = .ok (.sipush 237, 3) := by decide +kernel
theorem dX10_isPaired_15 : decode cX10_isPaired 15 = .ok (.iconst 3, 1) := by decide +kernel
theorem dX10_isPaired_16 : decode cX10_isPaired 16 = .ok (.iload_n 3, 1) := by decide +kernel
theorem dX10_isPaired_17 : decode cX10_isPaired 17 = .ok (.imul, 1) := by decide +kernel
theorem dX10_isPaired_18 : decode cX10_isPaired 18 = .ok (.iadd, 1) := by decide +kernel
theorem dX10_isPaired_19 : decode cX10_isPaired 19 = .ok (.iaload, 1) := by decide +kernel
theorem dX10_isPaired_20 : decode cX10_isPaired 20 = .ok (.iload_n 1, 1) := by decide +kernel
theorem dX10_isPaired_21 : decode cX10_isPaired 21 = .ok (.if_icmp .ne 20, 3) := by decide +kernel
theorem dX10_isPaired_24 : decode cX10_isPaired 24 = .ok (.aload_n 0, 1) := by decide +kernel
theorem dX10_isPaired_25 : decode cX10_isPaired 25 = .ok (.sipush 237, 3) := by decide +kernel
theorem dX10_isPaired_28 : decode cX10_isPaired 28 = .ok (.iconst 3, 1) := by decide +kernel
theorem dX10_isPaired_29 : decode cX10_isPaired 29 = .ok (.iload_n 3, 1) := by decide +kernel
theorem dX10_isPaired_30 : decode cX10_isPaired 30 = .ok (.imul, 1) := by decide +kernel
theorem dX10_isPaired_31 : decode cX10_isPaired 31 = .ok (.iadd, 1) := by decide +kernel
theorem dX10_isPaired_32 : decode cX10_isPaired 32 = .ok (.iconst 1, 1) := by decide +kernel
theorem dX10_isPaired_33 : decode cX10_isPaired 33 = .ok (.iadd, 1) := by decide +kernel
theorem dX10_isPaired_34 : decode cX10_isPaired 34 = .ok (.iaload, 1) := by decide +kernel
theorem dX10_isPaired_35 : decode cX10_isPaired 35 = .ok (.iload_n 2, 1) := by decide +kernel
theorem dX10_isPaired_36 : decode cX10_isPaired 36 = .ok (.if_icmp .ne 5, 3) := by decide +kernel
theorem dX10_isPaired_39 : decode cX10_isPaired 39 = .ok (.iconst 1, 1) := by decide +kernel
theorem dX10_isPaired_40 : decode cX10_isPaired 40 = .ok (.ireturn, 1) := by decide +kernel
theorem dX10_isPaired_41 : decode cX10_isPaired 41 = .ok (.iinc 3 1, 3) := by decide +kernel
theorem dX10_isPaired_44 : decode cX10_isPaired 44 = .ok (.goto (-42), 3) := by decide +kernel
theorem dX10_isPaired_47 : decode cX10_isPaired 47 = .ok (.iconst 0, 1) := by decide +kernel
theorem dX10_isPaired_48 : decode cX10_isPaired 48 = .ok (.ireturn, 1) := by decide +kernel
theorem dX10_pairs_0 : decode cX10_pairs 0 = .ok (.aload_n 0, 1) := by decide +kernel
theorem dX10_pairs_1 : decode cX10_pairs 1 = .ok (.sipush 236, 3) := by decide +kernel
theorem dX10_pairs_4 : decode cX10_pairs 4 = .ok (.iconst 0, 1) := by decide +kernel
theorem dX10_pairs_5 : decode cX10_pairs 5 = .ok (.iastore, 1) := by decide +kernel
theorem dX10_pairs_6 : decode cX10_pairs 6 = .ok (.iconst 1, 1) := by decide +kernel
theorem dX10_pairs_7 : decode cX10_pairs 7 = .ok (.istore_n 1, 1) := by decide +kernel
theorem dX10_pairs_8 : decode cX10_pairs 8 = .ok (.iload_n 1, 1) := by decide +kernel
theorem dX10_pairs_9 : decode cX10_pairs 9 = .ok (.ifCond .eq 217, 3) := by decide +kernel
theorem dX10_pairs_12 : decode cX10_pairs 12 = .ok (.aload_n 0, 1) := by decide +kernel
theorem dX10_pairs_13 : decode cX10_pairs 13 = .ok (.sipush 236, 3) := by decide +kernel
theorem dX10_pairs_16 : decode cX10_pairs 16 = .ok (.iaload, 1) := by decide +kernel
theorem dX10_pairs_17 : decode cX10_pairs 17 = .ok (.aload_n 0, 1) := by decide +kernel
theorem dX10_pairs_18 : decode cX10_pairs 18 = .ok (.bipush 6, 2) := by decide +kernel
theorem dX10_pairs_20 : decode cX10_pairs 20 = .ok (.iaload, 1) := by decide +kernel
theorem dX10_pairs_21 : decode cX10_pairs 21 = .ok (.if_icmp .ge 205, 3) := by decide +kernel
theorem dX10_pairs_24 : decode cX10_pairs 24 = .ok (.iconst 1, 1) := by decide +kernel
theorem dX10_pairs_25 : decode cX10_pairs 25 = .ok (.istore_n 2, 1) := by decide +kernel
theorem dX10_pairs_26 : decode cX10_pairs 26 = .ok (.iconst 0, 1) := by decide +kernel
theorem dX10_pairs_27 : decode cX10_pairs 27 = .ok (.istore_n 3, 1) := by decide +kernel
theorem dX10_pairs_28 : decode cX10_pairs 28 = .ok (.iconst 0, 1) := by decide +kernel
theorem dX10_pairs_29 : decode cX10_pairs 29 = .ok (.istore 4, 2) := by decide +kernel
theorem dX10_pairs_31 : decode cX10_pairs 31 = .ok (.iload 4, 2) := by decide +kernel
theorem dX10_pairs_33 : decode cX10_pairs 33 = .ok (.aload_n 0, 1) := by decide +kernel
theorem dX10_pairs_34 : decode cX10_pairs 34 = .ok (.iconst 0, 1) := by decide +kernel
theorem dX10_pairs_35 : decode cX10_pairs 35 = .ok (.iaload, 1) := by decide +kernel
theorem dX10_pairs_36 : decode cX10_pairs 36 = .ok (.if_icmp .ge 125, 3) := by decide +kernel
theorem dX10_pairs_39 : decode cX10_pairs 39 = .ok (.aload_n 0, 1) := by decide +kernel
theorem dX10_pairs_40 : decode cX10_pairs 40 = .ok (.aload_n 0, 1) := by decide +kernel
theorem dX10_pairs_41 : decode cX10_pairs 41 = .ok (.iload 4, 2) := by decide +kernel
theorem dX10_pairs_43 : decode cX10_pairs 43 = .ok (.iconst 0, 1) := by decide +kernel
theorem dX10_pairs_44 : decode cX10_pairs 44 = .ok (.invokestatic 54, 3) := by decide +kernel
theorem dX10_pairs_47 : decode cX10_pairs 47 = .ok (.aload_n 0, 1) := by decide +kernel
theorem dX10_pairs_48 : decode cX10_pairs 48 = .ok (.iload 4, 2) := by decide +kernel
theorem dX10_pairs_50 : decode cX10_pairs 50 = .ok (.iconst 1, 1) := by decide +kernel
theorem dX10_pairs_51 : decode cX10_pairs 51 = .ok (.invokestatic 54, 3) := by decide +kernel
theorem dX10_pairs_54 : decode cX10_pairs 54 = .ok (.invokestatic 57, 3) := by decide +kernel
theorem dX10_pairs_57 : decode cX10_pairs 57 = .ok (.istore 5, 2) := by decide +kernel
theorem dX10_pairs_59 : decode cX10_pairs 59 = .ok (.bipush 100, 2) := by decide +kernel
theorem dX10_pairs_61 : decode cX10_pairs 61 = .ok (.aload_n 0, 1) := by decide +kernel
theorem dX10_pairs_62 : decode cX10_pairs 62 = .ok (.iload 4, 2) := by decide +kernel
theorem dX10_pairs_64 : decode cX10_pairs 64 = .ok (.iconst 0, 1) := by decide +kernel
theorem dX10_pairs_65 : decode cX10_pairs 65 = .ok (.invokestatic 54, 3) := by decide +kernel
theorem dX10_pairs_68 : decode cX10_pairs 68 = .ok (.imul, 1) := by decide +kernel
theorem dX10_pairs_69 : decode cX10_pairs 69 = .ok (.aload_n 0, 1) := by decide +kernel
theorem dX10_pairs_70 : decode cX10_pairs 70 = .ok (.iload 4, 2) := by decide +kernel
theorem dX10_pairs_72 : decode cX10_pairs 72 = .ok (.iconst 1, 1) := by decide +kernel
theorem dX10_pairs_73 : decode cX10_pairs 73 = .ok (.invokestatic 54, 3) := by decide +kernel
theorem dX10_pairs_76 : decode cX10_pairs 76 = .ok (.iadd, 1) := by decide +kernel
theorem dX10_pairs_77 : decode cX10_pairs 77 = .ok (.istore 6, 2) := by decide +kernel
theorem dX10_pairs_79 : decode cX10_pairs 79 = .ok (.aload_n 0, 1) := by decide +kernel
theorem dX10_pairs_80 : decode cX10_pairs 80 = .ok (.aload_n 0, 1) := by decide +kernel
theorem dX10_pairs_81 : decode cX10_pairs 81 = .ok (.iload 4, 2) := by decide +kernel
theorem dX10_pairs_83 : decode cX10_pairs 83 = .ok (.iconst 0, 1) := by decide +kernel
theorem dX10_pairs_84 : decode cX10_pairs 84 = .ok (.invokestatic 54, 3) := by decide +kernel
theorem dX10_pairs_87 : decode cX10_pairs 87 = .ok (.aload_n 0, 1) := by decide +kernel
theorem dX10_pairs_88 : decode cX10_pairs 88 = .ok (.iload 4, 2) := by decide +kernel
theorem dX10_pairs_90 : decode cX10_pairs 90 = .ok (.iconst 1, 1) := by decide +kernel
theorem dX10_pairs_91 : decode cX10_pairs 91 = .ok (.invokestatic 54, 3) := by decide +kernel
theorem dX10_pairs_94 : decode cX10_pairs 94 = .ok (.invokestatic 60, 3) := by decide +kernel
theorem dX10_pairs_97 : decode cX10_pairs 97 = .ok (.ifCond .ne 31, 3) := by decide +kernel
theorem dX10_pairs_100 : decode cX10_pairs 100 = .ok (.iload 5, 2) := by decide +kernel
theorem dX10_pairs_102 : decode cX10_pairs 102 = .ok (.iload_n 2, 1) := by decide +kernel
theorem dX10_pairs_103 : decode cX10_pairs 103 = .ok (.if_icmp .gt 21, 3) := by decide +kernel
theorem dX10_pairs_106 : decode cX10_pairs 106 = .ok (.iload 5, 2) := by decide +kernel
theorem dX10_pairs_108 : decode cX10_pairs 108 = .ok (.iload_n 2, 1) := by decide +kernel
theorem dX10_pairs_109 : decode cX10_pairs 109 = .ok (.if_icmp .ne 19, 3) := by decide +kernel
theorem dX10_pairs_112 : decode cX10_pairs 112 = .ok (.iload 5, 2) := by decide +kernel
theorem dX10_pairs_114 : decode cX10_pairs 114 = .ok (.iconst 1, 1) := by decide +kernel
theorem dX10_pairs_115 : decode cX10_pairs 115 = .ok (.if_icmp .le 13, 3) := by decide +kernel
theorem dX10_pairs_118 : decode cX10_pairs 118 = .ok (.iload 6, 2) := by decide +kernel
theorem dX10_pairs_120 : decode cX10_pairs 120 = .ok (.iload_n 3, 1) := by decide +kernel
theorem dX10_pairs_121 : decode cX10_pairs 121 = .ok (.if_icmp .ge 7, 3) := by decide +kernel
theorem dX10_pairs_124 : decode cX10_pairs 124 = .ok (.iconst 1, 1) := by decide +kernel
theorem dX10_pairs_125 : decode cX10_pairs 125 = .ok (.goto 4, 3) := by decide +kernel
theorem dX10_pairs_128 : decode cX10_pairs 128 = .ok (.iconst 0, 1) := by decide +kernel
theorem dX10_pairs_129 : decode cX10_pairs 129 = .ok (.istore 7, 2) := by decide +kernel
theorem dX10_pairs_131 : decode cX10_pairs 131 = .ok (.iload 7, 2) := by decide +kernel
theorem dX10_pairs_133 : decode cX10_pairs 133 = .ok (.ifCond .eq 8, 3) := by decide +kernel
theorem dX10_pairs_136 : decode cX10_pairs 136 = .ok (.iload 6, 2) := by decide +kernel
theorem dX10_pairs_138 : decode cX10_pairs 138 = .ok (.goto 4, 3) := by decide +kernel
theorem dX10_pairs_141 : decode cX10_pairs 141 = .ok (.iload_n 3, 1) := by decide +kernel
theorem dX10_pairs_142 : decode cX10_pairs 142 = .ok (.istore_n 3, 1) := by decide +kernel
theorem dX10_pairs_143 : decode cX10_pairs 143 = .ok (.iload 7, 2) := by decide +kernel
theorem dX10_pairs_145 : decode cX10_pairs 145 = .ok (.ifCond .eq 8, 3) := by decide +kernel
theorem dX10_pairs_148 : decode cX10_pairs 148 = .ok (.iload 5, 2) := by decide +kernel
theorem dX10_pairs_150 : decode cX10_pairs 150 = .ok (.goto 4, 3) := by decide +kernel
theorem dX10_pairs_153 : decode cX10_pairs 153 = .ok (.iload_n 2, 1) := by decide +kernel
theorem dX10_pairs_154 : decode cX10_pairs 154 = .ok (.istore_n 2, 1) := by decide +kernel
theorem dX10_pairs_155 : decode cX10_pairs 155 = .ok (.iinc 4 1, 3) := by decide +kernel
theorem dX10_pairs_158 : decode cX10_pairs 158 = .ok (.goto (-127), 3) := by decide +kernel
theorem dX10_pairs_161 : decode cX10_pairs 161 = .ok (.iload_n 2, 1) := by decide +kernel
theorem dX10_pairs_162 : decode cX10_pairs 162 = .ok (.iconst 1, 1) := by decide +kernel
theorem dX10_pairs_163 : decode cX10_pairs 163 = .ok (.if_icmp .le 7, 3) := by decide +kernel
theorem dX10_pairs_166 : decode cX10_pairs 166 = .ok (.iconst 1, 1) := by decide +kernel
theorem dX10_pairs_167 : decode cX10_pairs 167 = .ok (.goto 4, 3) := by decide +kernel
theorem dX10_pairs_170 : decode cX10_pairs 170 = .ok (.iconst 0, 1) := by decide +kernel
theorem dX10_pairs_171 : decode cX10_pairs 171 = .ok (.istore_n 1, 1) := by decide +kernel
theorem dX10_pairs_172 : decode cX10_pairs 172 = .ok (.iload_n 1, 1) := by decide +kernel
theorem dX10_pairs_173 : decode cX10_pairs 173 = .ok (.ifCond .eq 50, 3) := by decide +kernel
theorem dX10_pairs_176 : decode cX10_pairs 176 = .ok (.sipush 237, 3) := by decide +kernel
theorem dX10_pairs_179 : decode cX10_pairs 179 = .ok (.iconst 3, 1) := by decide +kernel
theorem dX10_pairs_180 : decode cX10_pairs 180 = .ok (.aload_n 0, 1) := by decide +kernel
theorem dX10_pairs_181 : decode cX10_pairs 181 = .ok (.sipush 236, 3) := by decide +kernel
theorem dX10_pairs_184 : decode cX10_pairs 184 = .ok (.iaload, 1) := by decide +kernel
theorem dX10_pairs_185 : decode cX10_pairs 185 = .ok (.imul, 1) := by decide +kernel
theorem dX10_pairs_186 : decode cX10_pairs 186 = .ok (.iadd, 1) := by decide +kernel
theorem dX10_pairs_187 : decode cX10_pairs 187 = .ok (.istore 4, 2) := by decide +kernel
theorem dX10_pairs_189 : decode cX10_pairs 189 = .ok (.aload_n 0, 1) := by decide +kernel
theorem dX10_pairs_190 : decode cX10_pairs 190 = .ok (.iload 4, 2) := by decide +kernel
theorem dX10_pairs_192 : decode cX10_pairs 192 = .ok (.iload_n 3, 1) := by decide +kernel
theorem dX10_pairs_193 : decode cX10_pairs 193 = .ok (.bipush 100, 2) := by decide +kernel
theorem dX10_pairs_195 : decode cX10_pairs 195 = .ok (.idiv, 1) := by decide +kernel
theorem dX10_pairs_196 : decode cX10_pairs 196 = .ok (.iastore, 1) := by decide +kernel
theorem dX10_pairs_197 : decode cX10_pairs 197 = .ok (.aload_n 0, 1) := by decide +kernel
theorem dX10_pairs_198 : decode cX10_pairs 198 = .ok (.iload 4, 2) := by decide +kernel
theorem dX10_pairs_200 : decode cX10_pairs 200 = .ok (.iconst 1, 1) := by decide +kernel
theorem dX10_pairs_201 : decode cX10_pairs 201 = .ok (.iadd, 1) := by decide +kernel
theorem dX10_pairs_202 : decode cX10_pairs 202 = .ok (.iload_n 3, 1) := by decide +kernel
theorem dX10_pairs_203 : decode cX10_pairs 203 = .ok (.bipush 100, 2) := by decide +kernel
theorem dX10_pairs_205 : decode cX10_pairs 205 = .ok (.irem, 1) := by decide +kernel
theorem dX10_pairs_206 : decode cX10_pairs 206 = .ok (.iastore, 1) := by decide +kernel
theorem dX10_pairs_207 : decode cX10_pairs 207 = .ok (.aload_n 0, 1) := by decide +kernel
theorem dX10_pairs_208 : decode cX10_pairs 208 = .ok (.iload 4, 2) := by decide +kernel
theorem dX10_pairs_210 : decode cX10_pairs 210 = .ok (.iconst 2, 1) := by decide +kernel
theorem dX10_pairs_211 : decode cX10_pairs 211 = .ok (.iadd, 1) := by decide +kernel
theorem dX10_pairs_212 : decode cX10_pairs 212 = .ok (.iload_n 2, 1) := by decide +kernel
theorem dX10_pairs_213 : decode cX10_pairs 213 = .ok (.iastore, 1) := by decide +kernel
theorem dX10_pairs_214 : decode cX10_pairs 214 = .ok (.aload_n 0, 1) := by decide +kernel
theorem dX10_pairs_215 : decode cX10_pairs 215 = .ok (.sipush 236, 3) := by decide +kernel
theorem dX10_pairs_218 : decode cX10_pairs 218 = .ok (.dup2, 1) := by decide +kernel
theorem dX10_pairs_219 : decode cX10_pairs 219 = .ok (.iaload, 1) := by decide +kernel
theorem dX10_pairs_220 : decode cX10_pairs 220 = .ok (.iconst 1, 1) := by decide +kernel
theorem dX10_pairs_221 : decode cX10_pairs 221 = .ok (.iadd, 1) := by decide +kernel
theorem dX10_pairs_222 : decode cX10_pairs 222 = .ok (.iastore, 1) := by decide +kernel
theorem dX10_pairs_223 : decode cX10_pairs 223 = .ok (.goto (-215), 3) := by decide +kernel
theorem dX10_pairs_226 : decode cX10_pairs 226 = .ok (.return_, 1) := by decide +kernel
theorem dX10_analyses_0 : decode cX10_analyses 0 = .ok (.iconst 0, 1) := by decide +kernel
theorem dX10_analyses_1 : decode cX10_analyses 1 = .ok (.istore_n 2, 1) := by decide +kernel
theorem dX10_analyses_2 : decode cX10_analyses 2 = .ok (.iload_n 2, 1) := by decide +kernel
theorem dX10_analyses_3 : decode cX10_analyses 3 = .ok (.sipush 200, 3) := by decide +kernel
theorem dX10_analyses_6 : decode cX10_analyses 6 = .ok (.if_icmp .ge 17, 3) := by decide +kernel
theorem dX10_analyses_9 : decode cX10_analyses 9 = .ok (.aload_n 1, 1) := by decide +kernel
theorem dX10_analyses_10 : decode cX10_analyses 10 = .ok (.sipush 255, 3) := by decide +kernel
theorem dX10_analyses_13 : decode cX10_analyses 13 = .ok (.iload_n 2, 1) := by decide +kernel
theorem dX10_analyses_14 : decode cX10_analyses 14 = .ok (.iadd, 1) := by decide +kernel
theorem dX10_analyses_15 : decode cX10_analyses 15 = .ok (.iconst 0, 1) := by decide +kernel
theorem dX10_analyses_16 : decode cX10_analyses 16 = .ok (.iastore, 1) := by decide +kernel
theorem dX10_analyses_17 : decode cX10_analyses 17 = .ok (.iinc 2 1, 3) := by decide +kernel
theorem dX10_analyses_20 : decode cX10_analyses 20 = .ok (.goto (-18), 3) := by decide +kernel
theorem dX10_analyses_23 : decode cX10_analyses 23 = .ok (.iconst 0, 1) := by decide +kernel
theorem dX10_analyses_24 : decode cX10_analyses 24 = .ok (.istore_n 2, 1) := by decide +kernel
theorem dX10_analyses_25 : decode cX10_analyses 25 = .ok (.iload_n 2, 1) := by decide +kernel
theorem dX10_analyses_26 : decode cX10_analyses 26 = .ok (.aload_n 1, 1) := by decide +kernel
theorem dX10_analyses_27 : decode cX10_analyses 27 = .ok (.iconst 0, 1) := by decide +kernel
theorem dX10_analyses_28 : decode cX10_analyses 28 = .ok (.iaload, 1) := by decide +kernel
theorem dX10_analyses_29 : decode cX10_analyses 29 = .ok (.if_icmp .ge 41, 3) := by decide +kernel
theorem dX10_analyses_32 : decode cX10_analyses 32 = .ok (.aload_n 1, 1) := by decide +kernel
theorem dX10_analyses_33 : decode cX10_analyses 33 = .ok (.sipush 255, 3) := by decide +kernel
theorem dX10_analyses_36 : decode cX10_analyses 36 = .ok (.aload_n 1, 1) := by decide +kernel
theorem dX10_analyses_37 : decode cX10_analyses 37 = .ok (.iload_n 2, 1) := by decide +kernel
theorem dX10_analyses_38 : decode cX10_analyses 38 = .ok (.iconst 0, 1) := by decide +kernel
theorem dX10_analyses_39 : decode cX10_analyses 39 = .ok (.invokestatic 54, 3) := by decide +kernel
theorem dX10_analyses_42 : decode cX10_analyses 42 = .ok (.iadd, 1) := by decide +kernel
theorem dX10_analyses_43 : decode cX10_analyses 43 = .ok (.dup2, 1) := by decide +kernel
theorem dX10_analyses_44 : decode cX10_analyses 44 = .ok (.iaload, 1) := by decide +kernel
theorem dX10_analyses_45 : decode cX10_analyses 45 = .ok (.iconst 1, 1) := by decide +kernel
theorem dX10_analyses_46 : decode cX10_analyses 46 = .ok (.iadd, 1) := by decide +kernel
theorem dX10_analyses_47 : decode cX10_analyses 47 = .ok (.iastore, 1) := by decide +kernel
theorem dX10_analyses_48 : decode cX10_analyses 48 = .ok (.aload_n 1, 1) := by decide +kernel
theorem dX10_analyses_49 : decode cX10_analyses 49 = .ok (.sipush 355, 3) := by decide +kernel
theorem dX10_analyses_52 : decode cX10_analyses 52 = .ok (.aload_n 1, 1) := by decide +kernel
theorem dX10_analyses_53 : decode cX10_analyses 53 = .ok (.iload_n 2, 1) := by decide +kernel
theorem dX10_analyses_54 : decode cX10_analyses 54 = .ok (.iconst 1, 1) := by decide +kernel
theorem dX10_analyses_55 : decode cX10_analyses 55 = .ok (.invokestatic 54, 3) := by decide +kernel
theorem dX10_analyses_58 : decode cX10_analyses 58 = .ok (.iadd, 1) := by decide +kernel
theorem dX10_analyses_59 : decode cX10_analyses 59 = .ok (.dup2, 1) := by decide +kernel
theorem dX10_analyses_60 : decode cX10_analyses 60 = .ok (.iaload, 1) := by decide +kernel
theorem dX10_analyses_61 : decode cX10_analyses 61 = .ok (.iconst 1, 1) := by decide +kernel
theorem dX10_analyses_62 : decode cX10_analyses 62 = .ok (.iadd, 1) := by decide +kernel
theorem dX10_analyses_63 : decode cX10_analyses 63 = .ok (.iastore, 1) := by decide +kernel
theorem dX10_analyses_64 : decode cX10_analyses 64 = .ok (.iinc 2 1, 3) := by decide +kernel
theorem dX10_analyses_67 : decode cX10_analyses 67 = .ok (.goto (-42), 3) := by decide +kernel
theorem dX10_analyses_70 : decode cX10_analyses 70 = .ok (.iconst 0, 1) := by decide +kernel
theorem dX10_analyses_71 : decode cX10_analyses 71 = .ok (.istore_n 2, 1) := by decide +kernel
theorem dX10_analyses_72 : decode cX10_analyses 72 = .ok (.iload_n 2, 1) := by decide +kernel
theorem dX10_analyses_73 : decode cX10_analyses 73 = .ok (.iconst 2, 1) := by decide +kernel
theorem dX10_analyses_74 : decode cX10_analyses 74 = .ok (.if_icmp .ge 21, 3) := by decide +kernel
theorem dX10_analyses_77 : decode cX10_analyses 77 = .ok (.aload_n 0, 1) := by decide +kernel
theorem dX10_analyses_78 : decode cX10_analyses 78 = .ok (.aload_n 1, 1) := by decide +kernel
theorem dX10_analyses_79 : decode cX10_analyses 79 = .ok (.iload_n 2, 1) := by decide +kernel
theorem dX10_analyses_80 : decode cX10_analyses 80 = .ok (.invokevirtual 64, 3) := by decide +kernel
theorem dX10_analyses_83 : decode cX10_analyses 83 = .ok (.aload_n 0, 1) := by decide +kernel
theorem dX10_analyses_84 : decode cX10_analyses 84 = .ok (.aload_n 1, 1) := by decide +kernel
theorem dX10_analyses_85 : decode cX10_analyses 85 = .ok (.iload_n 2, 1) := by decide +kernel
theorem dX10_analyses_86 : decode cX10_analyses 86 = .ok (.invokevirtual 68, 3) := by decide +kernel
theorem dX10_analyses_89 : decode cX10_analyses 89 = .ok (.iinc 2 1, 3) := by decide +kernel
theorem dX10_analyses_92 : decode cX10_analyses 92 = .ok (.goto (-20), 3) := by decide +kernel
theorem dX10_analyses_95 : decode cX10_analyses 95 = .ok (.aload_n 1, 1) := by decide +kernel
theorem dX10_analyses_96 : decode cX10_analyses 96 = .ok (.invokestatic 71, 3) := by decide +kernel
theorem dX10_analyses_99 : decode cX10_analyses 99 = .ok (.aload_n 1, 1) := by decide +kernel
theorem dX10_analyses_100 : decode cX10_analyses 100 = .ok (.iconst 1, 1) := by decide +kernel
theorem dX10_analyses_101 : decode cX10_analyses 101 = .ok (.iconst 1, 1) := by decide +kernel
theorem dX10_analyses_102 : decode cX10_analyses 102 = .ok (.iastore, 1) := by decide +kernel
theorem dX10_analyses_103 : decode cX10_analyses 103 = .ok (.aload_n 1, 1) := by decide +kernel
theorem dX10_analyses_104 : decode cX10_analyses 104 = .ok (.iconst 2, 1) := by decide +kernel
theorem dX10_analyses_105 : decode cX10_analyses 105 = .ok (.aload_n 1, 1) := by decide +kernel
theorem dX10_analyses_106 : decode cX10_analyses 106 = .ok (.iconst 0, 1) := by decide +kernel
theorem dX10_analyses_107 : decode cX10_analyses 107 = .ok (.iaload, 1) := by decide +kernel
theorem dX10_analyses_108 : decode cX10_analyses 108 = .ok (.iastore, 1) := by decide +kernel
theorem dX10_analyses_109 : decode cX10_analyses 109 = .ok (.aload_n 1, 1) := by decide +kernel
theorem dX10_analyses_110 : decode cX10_analyses 110 = .ok (.iconst 3, 1) := by decide +kernel
theorem dX10_analyses_111 : decode cX10_analyses 111 = .ok (.iconst 0, 1) := by decide +kernel
theorem dX10_analyses_112 : decode cX10_analyses 112 = .ok (.iastore, 1) := by decide +kernel
theorem dX10_analyses_113 : decode cX10_analyses 113 = .ok (.return_, 1) := by decide +kernel
theorem dX10_estimated_0 : decode cX10_estimated 0 = .ok (.iconst 0, 1) := by decide +kernel
theorem dX10_estimated_1 : decode cX10_estimated 1 = .ok (.istore 5, 2) := by decide +kernel
theorem dX10_estimated_3 : decode cX10_estimated 3 = .ok (.iconst 0, 1) := by decide +kernel
theorem dX10_estimated_4 : decode cX10_estimated 4 = .ok (.istore 6, 2) := by decide +kernel
theorem dX10_estimated_6 : decode cX10_estimated 6 = .ok (.iload 6, 2) := by decide +kernel
theorem dX10_estimated_8 : decode cX10_estimated 8 = .ok (.aload_n 0, 1) := by decide +kernel
theorem dX10_estimated_9 : decode cX10_estimated 9 = .ok (.sipush 210, 3) := by decide +kernel
theorem dX10_estimated_12 : decode cX10_estimated 12 = .ok (.iload_n 1, 1) := by decide +kernel
theorem dX10_estimated_13 : decode cX10_estimated 13 = .ok (.iadd, 1) := by decide +kernel
theorem dX10_estimated_14 : decode cX10_estimated 14 = .ok (.iaload, 1) := by decide +kernel
theorem dX10_estimated_15 : decode cX10_estimated 15 = .ok (.if_icmp .ge 51, 3) := by decide +kernel
theorem dX10_estimated_18 : decode cX10_estimated 18 = .ok (.sipush 212, 3) := by decide +kernel
theorem dX10_estimated_21 : decode cX10_estimated 21 = .ok (.bipush 12, 2) := by decide +kernel
theorem dX10_estimated_23 : decode cX10_estimated 23 = .ok (.iload_n 1, 1) := by decide +kernel
theorem dX10_estimated_24 : decode cX10_estimated 24 = .ok (.imul, 1) := by decide +kernel
theorem dX10_estimated_25 : decode cX10_estimated 25 = .ok (.iadd, 1) := by decide +kernel
theorem dX10_estimated_26 : decode cX10_estimated 26 = .ok (.iconst 2, 1) := by decide +kernel
theorem dX10_estimated_27 : decode cX10_estimated 27 = .ok (.iload 6, 2) := by decide +kernel
theorem dX10_estimated_29 : decode cX10_estimated 29 = .ok (.imul, 1) := by decide +kernel
theorem dX10_estimated_30 : decode cX10_estimated 30 = .ok (.iadd, 1) := by decide +kernel
theorem dX10_estimated_31 : decode cX10_estimated 31 = .ok (.istore 7, 2) := by decide +kernel
theorem dX10_estimated_33 : decode cX10_estimated 33 = .ok (.iload 5, 2) := by decide +kernel
theorem dX10_estimated_35 : decode cX10_estimated 35 = .ok (.aload_n 0, 1) := by decide +kernel
theorem dX10_estimated_36 : decode cX10_estimated 36 = .ok (.iload 7, 2) := by decide +kernel
theorem dX10_estimated_38 : decode cX10_estimated 38 = .ok (.iaload, 1) := by decide +kernel
theorem dX10_estimated_39 : decode cX10_estimated 39 = .ok (.iload_n 2, 1) := by decide +kernel
theorem dX10_estimated_40 : decode cX10_estimated 40 = .ok (.iload_n 3, 1) := by decide +kernel
theorem dX10_estimated_41 : decode cX10_estimated 41 = .ok (.invokestatic 35, 3) := by decide +kernel
theorem dX10_estimated_44 : decode cX10_estimated 44 = .ok (.ifCond .eq 12, 3) := by decide +kernel
theorem dX10_estimated_47 : decode cX10_estimated 47 = .ok (.aload_n 0, 1) := by decide +kernel
theorem dX10_estimated_48 : decode cX10_estimated 48 = .ok (.iload 7, 2) := by decide +kernel
theorem dX10_estimated_50 : decode cX10_estimated 50 = .ok (.iconst 1, 1) := by decide +kernel
theorem dX10_estimated_51 : decode cX10_estimated 51 = .ok (.iadd, 1) := by decide +kernel
theorem dX10_estimated_52 : decode cX10_estimated 52 = .ok (.iaload, 1) := by decide +kernel
theorem dX10_estimated_53 : decode cX10_estimated 53 = .ok (.goto 4, 3) := by decide +kernel
theorem dX10_estimated_56 : decode cX10_estimated 56 = .ok (.iconst 0, 1) := by decide +kernel
theorem dX10_estimated_57 : decode cX10_estimated 57 = .ok (.iadd, 1) := by decide +kernel
theorem dX10_estimated_58 : decode cX10_estimated 58 = .ok (.istore 5, 2) := by decide +kernel
theorem dX10_estimated_60 : decode cX10_estimated 60 = .ok (.iinc 6 1, 3) := by decide +kernel
theorem dX10_estimated_63 : decode cX10_estimated 63 = .ok (.goto (-57), 3) := by decide +kernel
theorem dX10_estimated_66 : decode cX10_estimated 66 = .ok (.iconst 0, 1) := by decide +kernel
theorem dX10_estimated_67 : decode cX10_estimated 67 = .ok (.istore 6, 2) := by decide +kernel
theorem dX10_estimated_69 : decode cX10_estimated 69 = .ok (.iload 6, 2) := by decide +kernel
theorem dX10_estimated_71 : decode cX10_estimated 71 = .ok (.aload_n 0, 1) := by decide +kernel
theorem dX10_estimated_72 : decode cX10_estimated 72 = .ok (.sipush 128, 3) := by decide +kernel
theorem dX10_estimated_75 : decode cX10_estimated 75 = .ok (.iload_n 1, 1) := by decide +kernel
theorem dX10_estimated_76 : decode cX10_estimated 76 = .ok (.iadd, 1) := by decide +kernel
theorem dX10_estimated_77 : decode cX10_estimated 77 = .ok (.iaload, 1) := by decide +kernel
theorem dX10_estimated_78 : decode cX10_estimated 78 = .ok (.if_icmp .ge 172, 3) := by decide +kernel
theorem dX10_estimated_81 : decode cX10_estimated 81 = .ok (.sipush 130, 3) := by decide +kernel
theorem dX10_estimated_84 : decode cX10_estimated 84 = .ok (.bipush 40, 2) := by decide +kernel
theorem dX10_estimated_86 : decode cX10_estimated 86 = .ok (.iload_n 1, 1) := by decide +kernel
theorem dX10_estimated_87 : decode cX10_estimated 87 = .ok (.imul, 1) := by decide +kernel
theorem dX10_estimated_88 : decode cX10_estimated 88 = .ok (.iadd, 1) := by decide +kernel
theorem dX10_estimated_89 : decode cX10_estimated 89 = .ok (.iconst 4, 1) := by decide +kernel
theorem dX10_estimated_90 : decode cX10_estimated 90 = .ok (.iload 6, 2) := by decide +kernel
theorem dX10_estimated_92 : decode cX10_estimated 92 = .ok (.imul, 1) := by decide +kernel
theorem dX10_estimated_93 : decode cX10_estimated 93 = .ok (.iadd, 1) := by decide +kernel
theorem dX10_estimated_94 : decode cX10_estimated 94 = .ok (.istore 7, 2) := by decide +kernel
theorem dX10_estimated_96 : decode cX10_estimated 96 = .ok (.aload_n 0, 1) := by decide +kernel
theorem dX10_estimated_97 : decode cX10_estimated 97 = .ok (.iload 7, 2) := by decide +kernel
theorem dX10_estimated_99 : decode cX10_estimated 99 = .ok (.iaload, 1) := by decide +kernel
theorem dX10_estimated_100 : decode cX10_estimated 100 = .ok (.iload_n 2, 1) := by decide +kernel
theorem dX10_estimated_101 : decode cX10_estimated 101 = .ok (.if_icmp .le 10, 3) := by decide +kernel
theorem dX10_estimated_104 : decode cX10_estimated 104 = .ok (.aload_n 0, 1) := by decide +kernel
theorem dX10_estimated_105 : decode cX10_estimated 105 = .ok (.iload 7, 2) := by decide +kernel
theorem dX10_estimated_107 : decode cX10_estimated 107 = .ok (.iaload, 1) := by decide +kernel
theorem dX10_estimated_108 : decode cX10_estimated 108 = .ok (.goto 4, 3) := by decide +kernel
theorem dX10_estimated_111 : decode cX10_estimated 111 = .ok (.iload_n 2, 1) := by decide +kernel
theorem dX10_estimated_112 : decode cX10_estimated 112 = .ok (.istore 8, 2) := by decide +kernel
theorem dX10_estimated_114 : decode cX10_estimated 114 = .ok (.aload_n 0, 1) := by decide +kernel
theorem dX10_estimated_115 : decode cX10_estimated 115 = .ok (.iload 7, 2) := by decide +kernel
theorem dX10_estimated_117 : decode cX10_estimated 117 = .ok (.iconst 1, 1) := by decide +kernel
theorem dX10_estimated_118 : decode cX10_estimated 118 = .ok (.iadd, 1) := by decide +kernel
theorem dX10_estimated_119 : decode cX10_estimated 119 = .ok (.iaload, 1) := by decide +kernel
theorem dX10_estimated_120 : decode cX10_estimated 120 = .ok (.iload_n 3, 1) := by decide +kernel
theorem dX10_estimated_121 : decode cX10_estimated 121 = .ok (.if_icmp .ge 12, 3) := by decide +kernel
theorem dX10_estimated_124 : decode cX10_estimated 124 = .ok (.aload_n 0, 1) := by decide +kernel
theorem dX10_estimated_125 : decode cX10_estimated 125 = .ok (.iload 7, 2) := by decide +kernel
theorem dX10_estimated_127 : decode cX10_estimated 127 = .ok (.iconst 1, 1) := by decide +kernel
theorem dX10_estimated_128 : decode cX10_estimated 128 = .ok (.iadd, 1) := by decide +kernel
theorem dX10_estimated_129 : decode cX10_estimated 129 = .ok (.iaload, 1) := by decide +kernel
theorem dX10_estimated_130 : decode cX10_estimated 130 = .ok (.goto 4, 3) := by decide +kernel
theorem dX10_estimated_133 : decode cX10_estimated 133 = .ok (.iload_n 3, 1) := by decide +kernel
theorem dX10_estimated_134 : decode cX10_estimated 134 = .ok (.istore 9, 2) := by decide +kernel
theorem dX10_estimated_136 : decode cX10_estimated 136 = .ok (.iload 9, 2) := by decide +kernel
theorem dX10_estimated_138 : decode cX10_estimated 138 = .ok (.iload 8, 2) := by decide +kernel
theorem dX10_estimated_140 : decode cX10_estimated 140 = .ok (.if_icmp .lt 13, 3) := by decide +kernel
theorem dX10_estimated_143 : decode cX10_estimated 143 = .ok (.iload 9, 2) := by decide +kernel
theorem dX10_estimated_145 : decode cX10_estimated 145 = .ok (.iload 8, 2) := by decide +kernel
theorem dX10_estimated_147 : decode cX10_estimated 147 = .ok (.isub, 1) := by decide +kernel
theorem dX10_estimated_148 : decode cX10_estimated 148 = .ok (.iconst 1, 1) := by decide +kernel
theorem dX10_estimated_149 : decode cX10_estimated 149 = .ok (.iadd, 1) := by decide +kernel
theorem dX10_estimated_150 : decode cX10_estimated 150 = .ok (.goto 4, 3) := by decide +kernel
theorem dX10_estimated_153 : decode cX10_estimated 153 = .ok (.iconst 0, 1) := by decide +kernel
theorem dX10_estimated_154 : decode cX10_estimated 154 = .ok (.istore 10, 2) := by decide +kernel
theorem dX10_estimated_156 : decode cX10_estimated 156 = .ok (.aload_n 0, 1) := by decide +kernel
theorem dX10_estimated_157 : decode cX10_estimated 157 = .ok (.iload 7, 2) := by decide +kernel
theorem dX10_estimated_159 : decode cX10_estimated 159 = .ok (.iconst 1, 1) := by decide +kernel
theorem dX10_estimated_160 : decode cX10_estimated 160 = .ok (.iadd, 1) := by decide +kernel
theorem dX10_estimated_161 : decode cX10_estimated 161 = .ok (.iaload, 1) := by decide +kernel
theorem dX10_estimated_162 : decode cX10_estimated 162 = .ok (.aload_n 0, 1) := by decide +kernel
theorem dX10_estimated_163 : decode cX10_estimated 163 = .ok (.iload 7, 2) := by decide +kernel
theorem dX10_estimated_165 : decode cX10_estimated 165 = .ok (.iaload, 1) := by decide +kernel
theorem dX10_estimated_166 : decode cX10_estimated 166 = .ok (.isub, 1) := by decide +kernel
theorem dX10_estimated_167 : decode cX10_estimated 167 = .ok (.iconst 1, 1) := by decide +kernel
theorem dX10_estimated_168 : decode cX10_estimated 168 = .ok (.iadd, 1) := by decide +kernel
theorem dX10_estimated_169 : decode cX10_estimated 169 = .ok (.istore 11, 2) := by decide +kernel
theorem dX10_estimated_171 : decode cX10_estimated 171 = .ok (.iload 4, 2) := by decide +kernel
theorem dX10_estimated_173 : decode cX10_estimated 173 = .ok (.iconst 1, 1) := by decide +kernel
theorem dX10_estimated_174 : decode cX10_estimated 174 = .ok (.if_icmp .ne 18, 3) := by decide +kernel
theorem dX10_estimated_177 : decode cX10_estimated 177 = .ok (.iload 10, 2) := by decide +kernel
theorem dX10_estimated_179 : decode cX10_estimated 179 = .ok (.iload 11, 2) := by decide +kernel
theorem dX10_estimated_181 : decode cX10_estimated 181 = .ok (.if_icmp .ne 7, 3) := by decide +kernel
theorem dX10_estimated_184 : decode cX10_estimated 184 = .ok (.iconst 1, 1) := by decide +kernel
theorem dX10_estimated_185 : decode cX10_estimated 185 = .ok (.goto 17, 3) := by decide +kernel
theorem dX10_estimated_188 : decode cX10_estimated 188 = .ok (.iconst 0, 1) := by decide +kernel
theorem dX10_estimated_189 : decode cX10_estimated 189 = .ok (.goto 13, 3) := by decide +kernel
theorem dX10_estimated_192 : decode cX10_estimated 192 = .ok (.iload 10, 2) := by decide +kernel
theorem dX10_estimated_194 : decode cX10_estimated 194 = .ok (.ifCond .le 7, 3) := by decide +kernel
theorem dX10_estimated_197 : decode cX10_estimated 197 = .ok (.iconst 1, 1) := by decide +kernel
theorem dX10_estimated_198 : decode cX10_estimated 198 = .ok (.goto 4, 3) := by decide +kernel
theorem dX10_estimated_201 : decode cX10_estimated 201 = .ok (.iconst 0, 1) := by decide +kernel
theorem dX10_estimated_202 : decode cX10_estimated 202 = .ok (.istore 12, 2) := by decide +kernel
theorem dX10_estimated_204 : decode cX10_estimated 204 = .ok (.iload 5, 2) := by decide +kernel
theorem dX10_estimated_206 : decode cX10_estimated 206 = .ok (.iload 4, 2) := by decide +kernel
theorem dX10_estimated_208 : decode cX10_estimated 208 = .ok (.ifCond .ne 18, 3) := by decide +kernel
theorem dX10_estimated_211 : decode cX10_estimated 211 = .ok (.aload_n 0, 1) := by decide +kernel
theorem dX10_estimated_212 : decode cX10_estimated 212 = .ok (.iload 7, 2) := by decide +kernel
theorem dX10_estimated_214 : decode cX10_estimated 214 = .ok (.iconst 2, 1) := by decide +kernel
theorem dX10_estimated_215 : decode cX10_estimated 215 = .ok (.iadd, 1) := by decide +kernel
theorem dX10_estimated_216 : decode cX10_estimated 216 = .ok (.iaload, 1) := by decide +kernel
theorem dX10_estimated_217 : decode cX10_estimated 217 = .ok (.iload 10, 2) := by decide +kernel
theorem dX10_estimated_219 : decode cX10_estimated 219 = .ok (.imul, 1) := by decide +kernel
theorem dX10_estimated_220 : decode cX10_estimated 220 = .ok (.iload 11, 2) := by decide +kernel
theorem dX10_estimated_222 : decode cX10_estimated 222 = .ok (.idiv, 1) := by decide +kernel
theorem dX10_estimated_223 : decode cX10_estimated 223 = .ok (.goto 18, 3) := by decide +kernel
theorem dX10_estimated_226 : decode cX10_estimated 226 = .ok (.iload 12, 2) := by decide +kernel
theorem dX10_estimated_228 : decode cX10_estimated 228 = .ok (.ifCond .eq 12, 3) := by decide +kernel
theorem dX10_estimated_231 : decode cX10_estimated 231 = .ok (.aload_n 0, 1) := by decide +kernel
theorem dX10_estimated_232 : decode cX10_estimated 232 = .ok (.iload 7, 2) := by decide +kernel
theorem dX10_estimated_234 : decode cX10_estimated 234 = .ok (.iconst 2, 1) := by decide +kernel
theorem dX10_estimated_235 : decode cX10_estimated 235 = .ok (.iadd, 1) := by decide +kernel
theorem dX10_estimated_236 : decode cX10_estimated 236 = .ok (.iaload, 1) := by decide +kernel
theorem dX10_estimated_237 : decode cX10_estimated 237 = .ok (.goto 4, 3) := by decide +kernel
theorem dX10_estimated_240 : decode cX10_estimated 240 = .ok (.iconst 0, 1) := by decide +kernel
theorem dX10_estimated_241 : decode cX10_estimated 241 = .ok (.iadd, 1) := by decide +kernel
theorem dX10_estimated_242 : decode cX10_estimated 242 = .ok (.istore 5, 2) := by decide +kernel
theorem dX10_estimated_244 : decode cX10_estimated 244 = .ok (.iinc 6 1, 3) := by decide +kernel
theorem dX10_estimated_247 : decode cX10_estimated 247 = .ok (.goto (-178), 3) := by decide +kernel
theorem dX10_estimated_250 : decode cX10_estimated 250 = .ok (.iload 5, 2) := by decide +kernel
theorem dX10_estimated_252 : decode cX10_estimated 252 = .ok (.ireturn, 1) := by decide +kernel
theorem dX10_truly_0 : decode cX10_truly 0 = .ok (.iconst 0, 1) := by decide +kernel
theorem dX10_truly_1 : decode cX10_truly 1 = .ok (.istore 4, 2) := by decide +kernel
theorem dX10_truly_3 : decode cX10_truly 3 = .ok (.iconst 0, 1) := by decide +kernel
theorem dX10_truly_4 : decode cX10_truly 4 = .ok (.istore 5, 2) := by decide +kernel
theorem dX10_truly_6 : decode cX10_truly 6 = .ok (.iload 5, 2) := by decide +kernel
theorem dX10_truly_8 : decode cX10_truly 8 = .ok (.aload_n 0, 1) := by decide +kernel
theorem dX10_truly_9 : decode cX10_truly 9 = .ok (.getfield 7, 3) := by decide +kernel
theorem dX10_truly_12 : decode cX10_truly 12 = .ok (.iconst 0, 1) := by decide +kernel
theorem dX10_truly_13 : decode cX10_truly 13 = .ok (.iaload, 1) := by decide +kernel
theorem dX10_truly_14 : decode cX10_truly 14 = .ok (.if_icmp .ge 37, 3) := by decide +kernel
theorem dX10_truly_17 : decode cX10_truly 17 = .ok (.iload 4, 2) := by decide +kernel
theorem dX10_truly_19 : decode cX10_truly 19 = .ok (.aload_n 0, 1) := by decide +kernel
theorem dX10_truly_20 : decode cX10_truly 20 = .ok (.getfield 7, 3) := by decide +kernel
theorem dX10_truly_23 : decode cX10_truly 23 = .ok (.iload 5, 2) := by decide +kernel
theorem dX10_truly_25 : decode cX10_truly 25 = .ok (.iload_n 1, 1) := by decide +kernel
theorem dX10_truly_26 : decode cX10_truly 26 = .ok (.invokestatic 54, 3) := by decide +kernel
theorem dX10_truly_29 : decode cX10_truly 29 = .ok (.iload_n 2, 1) := by decide +kernel
theorem dX10_truly_30 : decode cX10_truly 30 = .ok (.iload_n 3, 1) := by decide +kernel
theorem dX10_truly_31 : decode cX10_truly 31 = .ok (.invokestatic 35, 3) := by decide +kernel
theorem dX10_truly_34 : decode cX10_truly 34 = .ok (.ifCond .eq 7, 3) := by decide +kernel
theorem dX10_truly_37 : decode cX10_truly 37 = .ok (.iconst 1, 1) := by decide +kernel
theorem dX10_truly_38 : decode cX10_truly 38 = .ok (.goto 4, 3) := by decide +kernel
theorem dX10_truly_41 : decode cX10_truly 41 = .ok (.iconst 0, 1) := by decide +kernel
theorem dX10_truly_42 : decode cX10_truly 42 = .ok (.iadd, 1) := by decide +kernel
theorem dX10_truly_43 : decode cX10_truly 43 = .ok (.istore 4, 2) := by decide +kernel
theorem dX10_truly_45 : decode cX10_truly 45 = .ok (.iinc 5 1, 3) := by decide +kernel
theorem dX10_truly_48 : decode cX10_truly 48 = .ok (.goto (-42), 3) := by decide +kernel
theorem dX10_truly_51 : decode cX10_truly 51 = .ok (.iload 4, 2) := by decide +kernel
theorem dX10_truly_53 : decode cX10_truly 53 = .ok (.ireturn, 1) := by decide +kernel
theorem dX10_scaled_0 : decode cX10_scaled 0 = .ok (.iload_n 1, 1) := by decide +kernel
theorem dX10_scaled_1 : decode cX10_scaled 1 = .ok (.aload_n 0, 1) := by decide +kernel
theorem dX10_scaled_2 : decode cX10_scaled 2 = .ok (.getfield 7, 3) := by decide +kernel
theorem dX10_scaled_5 : decode cX10_scaled 5 = .ok (.iconst 0, 1) := by decide +kernel
theorem dX10_scaled_6 : decode cX10_scaled 6 = .ok (.iaload, 1) := by decide +kernel
theorem dX10_scaled_7 : decode cX10_scaled 7 = .ok (.imul, 1) := by decide +kernel
theorem dX10_scaled_8 : decode cX10_scaled 8 = .ok (.aload_n 0, 1) := by decide +kernel
theorem dX10_scaled_9 : decode cX10_scaled 9 = .ok (.getfield 7, 3) := by decide +kernel
theorem dX10_scaled_12 : decode cX10_scaled 12 = .ok (.iconst 2, 1) := by decide +kernel
theorem dX10_scaled_13 : decode cX10_scaled 13 = .ok (.iaload, 1) := by decide +kernel
theorem dX10_scaled_14 : decode cX10_scaled 14 = .ok (.idiv, 1) := by decide +kernel
theorem dX10_scaled_15 : decode cX10_scaled 15 = .ok (.ireturn, 1) := by decide +kernel
theorem dX10_areBounds_0 : decode cX10_areBounds 0 = .ok (.iload_n 0, 1) := by decide +kernel
theorem dX10_areBounds_1 : decode cX10_areBounds 1 = .ok (.invokestatic 75, 3) := by decide +kernel
theorem dX10_areBounds_4 : decode cX10_areBounds 4 = .ok (.ifCond .eq 17, 3) := by decide +kernel
theorem dX10_areBounds_7 : decode cX10_areBounds 7 = .ok (.iload_n 1, 1) := by decide +kernel
theorem dX10_areBounds_8 : decode cX10_areBounds 8 = .ok (.iload_n 0, 1) := by decide +kernel
theorem dX10_areBounds_9 : decode cX10_areBounds 9 = .ok (.bipush 99, 2) := by decide +kernel
theorem dX10_areBounds_11 : decode cX10_areBounds 11 = .ok (.invokestatic 35, 3) := by decide +kernel
theorem dX10_areBounds_14 : decode cX10_areBounds 14 = .ok (.ifCond .eq 7, 3) := by decide +kernel
theorem dX10_areBounds_17 : decode cX10_areBounds 17 = .ok (.iconst 1, 1) := by decide +kernel
theorem dX10_areBounds_18 : decode cX10_areBounds 18 = .ok (.goto 4, 3) := by decide +kernel
theorem dX10_areBounds_21 : decode cX10_areBounds 21 = .ok (.iconst 0, 1) := by decide +kernel
theorem dX10_areBounds_22 : decode cX10_areBounds 22 = .ok (.ireturn, 1) := by decide +kernel
theorem dX10_estimate_0 : decode cX10_estimate 0 = .ok (.iload_n 1, 1) := by decide +kernel
theorem dX10_estimate_1 : decode cX10_estimate 1 = .ok (.invokestatic 79, 3) := by decide +kernel
theorem dX10_estimate_4 : decode cX10_estimate 4 = .ok (.ifCond .eq 21, 3) := by decide +kernel
theorem dX10_estimate_7 : decode cX10_estimate 7 = .ok (.iload_n 2, 1) := by decide +kernel
theorem dX10_estimate_8 : decode cX10_estimate 8 = .ok (.iload_n 3, 1) := by decide +kernel
theorem dX10_estimate_9 : decode cX10_estimate 9 = .ok (.invokestatic 82, 3) := by decide +kernel
theorem dX10_estimate_12 : decode cX10_estimate 12 = .ok (.ifCond .eq 13, 3) := by decide +kernel
theorem dX10_estimate_15 : decode cX10_estimate 15 = .ok (.iload 4, 2) := by decide +kernel
theorem dX10_estimate_17 : decode cX10_estimate 17 = .ok (.iconst 0, 1) := by decide +kernel
theorem dX10_estimate_18 : decode cX10_estimate 18 = .ok (.iconst 4, 1) := by decide +kernel
theorem dX10_estimate_19 : decode cX10_estimate 19 = .ok (.invokestatic 35, 3) := by decide +kernel
theorem dX10_estimate_22 : decode cX10_estimate 22 = .ok (.ifCond .ne 6, 3) := by decide +kernel
theorem dX10_estimate_25 : decode cX10_estimate 25 = .ok (.bipush (-2), 2) := by decide +kernel
theorem dX10_estimate_27 : decode cX10_estimate 27 = .ok (.ireturn, 1) := by decide +kernel
theorem dX10_estimate_28 : decode cX10_estimate 28 = .ok (.iload 4, 2) := by decide +kernel
theorem dX10_estimate_30 : decode cX10_estimate 30 = .ok (.iconst 4, 1) := by decide +kernel
theorem dX10_estimate_31 : decode cX10_estimate 31 = .ok (.if_icmp .ne 11, 3) := by decide +kernel
theorem dX10_estimate_34 : decode cX10_estimate 34 = .ok (.aload_n 0, 1) := by decide +kernel
theorem dX10_estimate_35 : decode cX10_estimate 35 = .ok (.iload_n 1, 1) := by decide +kernel
theorem dX10_estimate_36 : decode cX10_estimate 36 = .ok (.iload_n 2, 1) := by decide +kernel
theorem dX10_estimate_37 : decode cX10_estimate 37 = .ok (.iload_n 3, 1) := by decide +kernel
theorem dX10_estimate_38 : decode cX10_estimate 38 = .ok (.invokevirtual 86, 3) := by decide +kernel
theorem dX10_estimate_41 : decode cX10_estimate 41 = .ok (.ireturn, 1) := by decide +kernel
theorem dX10_estimate_42 : decode cX10_estimate 42 = .ok (.aload_n 0, 1) := by decide +kernel
theorem dX10_estimate_43 : decode cX10_estimate 43 = .ok (.getfield 7, 3) := by decide +kernel
theorem dX10_estimate_46 : decode cX10_estimate 46 = .ok (.iconst 1, 1) := by decide +kernel
theorem dX10_estimate_47 : decode cX10_estimate 47 = .ok (.iaload, 1) := by decide +kernel
theorem dX10_estimate_48 : decode cX10_estimate 48 = .ok (.ifCond .ne 6, 3) := by decide +kernel
theorem dX10_estimate_51 : decode cX10_estimate 51 = .ok (.bipush (-6), 2) := by decide +kernel
theorem dX10_estimate_53 : decode cX10_estimate 53 = .ok (.ireturn, 1) := by decide +kernel
theorem dX10_estimate_54 : decode cX10_estimate 54 = .ok (.iload 4, 2) := by decide +kernel
theorem dX10_estimate_56 : decode cX10_estimate 56 = .ok (.iconst 3, 1) := by decide +kernel
theorem dX10_estimate_57 : decode cX10_estimate 57 = .ok (.if_icmp .ge 18, 3) := by decide +kernel
theorem dX10_estimate_60 : decode cX10_estimate 60 = .ok (.aload_n 0, 1) := by decide +kernel
theorem dX10_estimate_61 : decode cX10_estimate 61 = .ok (.getfield 7, 3) := by decide +kernel
theorem dX10_estimate_64 : decode cX10_estimate 64 = .ok (.iload_n 1, 1) := by decide +kernel
theorem dX10_estimate_65 : decode cX10_estimate 65 = .ok (.iload_n 2, 1) := by decide +kernel
theorem dX10_estimate_66 : decode cX10_estimate 66 = .ok (.iload_n 3, 1) := by decide +kernel
theorem dX10_estimate_67 : decode cX10_estimate 67 = .ok (.iload 4, 2) := by decide +kernel
theorem dX10_estimate_69 : decode cX10_estimate 69 = .ok (.invokestatic 90, 3) := by decide +kernel
theorem dX10_estimate_72 : decode cX10_estimate 72 = .ok (.goto 18, 3) := by decide +kernel
theorem dX10_estimate_75 : decode cX10_estimate 75 = .ok (.aload_n 0, 1) := by decide +kernel
theorem dX10_estimate_76 : decode cX10_estimate 76 = .ok (.aload_n 0, 1) := by decide +kernel
theorem dX10_estimate_77 : decode cX10_estimate 77 = .ok (.getfield 7, 3) := by decide +kernel
theorem dX10_estimate_80 : decode cX10_estimate 80 = .ok (.iload_n 1, 1) := by decide +kernel
theorem dX10_estimate_81 : decode cX10_estimate 81 = .ok (.iload_n 2, 1) := by decide +kernel
theorem dX10_estimate_82 : decode cX10_estimate 82 = .ok (.iload_n 3, 1) := by decide +kernel
theorem dX10_estimate_83 : decode cX10_estimate 83 = .ok (.iconst 0, 1) := by decide +kernel
theorem dX10_estimate_84 : decode cX10_estimate 84 = .ok (.invokestatic 90, 3) := by decide +kernel
theorem dX10_estimate_87 : decode cX10_estimate 87 = .ok (.invokevirtual 94, 3) := by decide +kernel
theorem dX10_estimate_90 : decode cX10_estimate 90 = .ok (.ireturn, 1) := by decide +kernel
theorem dX10_paired_0 : decode cX10_paired 0 = .ok (.iconst 0, 1) := by decide +kernel
theorem dX10_paired_1 : decode cX10_paired 1 = .ok (.istore 5, 2) := by decide +kernel
theorem dX10_paired_3 : decode cX10_paired 3 = .ok (.iconst 0, 1) := by decide +kernel
theorem dX10_paired_4 : decode cX10_paired 4 = .ok (.istore 6, 2) := by decide +kernel
theorem dX10_paired_6 : decode cX10_paired 6 = .ok (.iload 6, 2) := by decide +kernel
theorem dX10_paired_8 : decode cX10_paired 8 = .ok (.aload_n 0, 1) := by decide +kernel
theorem dX10_paired_9 : decode cX10_paired 9 = .ok (.getfield 7, 3) := by decide +kernel
theorem dX10_paired_12 : decode cX10_paired 12 = .ok (.sipush 236, 3) := by decide +kernel
theorem dX10_paired_15 : decode cX10_paired 15 = .ok (.iaload, 1) := by decide +kernel
theorem dX10_paired_16 : decode cX10_paired 16 = .ok (.if_icmp .ge 70, 3) := by decide +kernel
theorem dX10_paired_19 : decode cX10_paired 19 = .ok (.sipush 237, 3) := by decide +kernel
theorem dX10_paired_22 : decode cX10_paired 22 = .ok (.iconst 3, 1) := by decide +kernel
theorem dX10_paired_23 : decode cX10_paired 23 = .ok (.iload 6, 2) := by decide +kernel
theorem dX10_paired_25 : decode cX10_paired 25 = .ok (.imul, 1) := by decide +kernel
theorem dX10_paired_26 : decode cX10_paired 26 = .ok (.iadd, 1) := by decide +kernel
theorem dX10_paired_27 : decode cX10_paired 27 = .ok (.istore 7, 2) := by decide +kernel
theorem dX10_paired_29 : decode cX10_paired 29 = .ok (.iload 5, 2) := by decide +kernel
theorem dX10_paired_31 : decode cX10_paired 31 = .ok (.aload_n 0, 1) := by decide +kernel
theorem dX10_paired_32 : decode cX10_paired 32 = .ok (.getfield 7, 3) := by decide +kernel
theorem dX10_paired_35 : decode cX10_paired 35 = .ok (.iload 7, 2) := by decide +kernel
theorem dX10_paired_37 : decode cX10_paired 37 = .ok (.iaload, 1) := by decide +kernel
theorem dX10_paired_38 : decode cX10_paired 38 = .ok (.iload_n 1, 1) := by decide +kernel
theorem dX10_paired_39 : decode cX10_paired 39 = .ok (.iload_n 2, 1) := by decide +kernel
theorem dX10_paired_40 : decode cX10_paired 40 = .ok (.invokestatic 35, 3) := by decide +kernel
theorem dX10_paired_43 : decode cX10_paired 43 = .ok (.ifCond .eq 33, 3) := by decide +kernel
theorem dX10_paired_46 : decode cX10_paired 46 = .ok (.aload_n 0, 1) := by decide +kernel
theorem dX10_paired_47 : decode cX10_paired 47 = .ok (.getfield 7, 3) := by decide +kernel
theorem dX10_paired_50 : decode cX10_paired 50 = .ok (.iload 7, 2) := by decide +kernel
theorem dX10_paired_52 : decode cX10_paired 52 = .ok (.iconst 1, 1) := by decide +kernel
theorem dX10_paired_53 : decode cX10_paired 53 = .ok (.iadd, 1) := by decide +kernel
theorem dX10_paired_54 : decode cX10_paired 54 = .ok (.iaload, 1) := by decide +kernel
theorem dX10_paired_55 : decode cX10_paired 55 = .ok (.iload_n 3, 1) := by decide +kernel
theorem dX10_paired_56 : decode cX10_paired 56 = .ok (.iload 4, 2) := by decide +kernel
theorem dX10_paired_58 : decode cX10_paired 58 = .ok (.invokestatic 35, 3) := by decide +kernel
theorem dX10_paired_61 : decode cX10_paired 61 = .ok (.ifCond .eq 15, 3) := by decide +kernel
theorem dX10_paired_64 : decode cX10_paired 64 = .ok (.aload_n 0, 1) := by decide +kernel
theorem dX10_paired_65 : decode cX10_paired 65 = .ok (.getfield 7, 3) := by decide +kernel
theorem dX10_paired_68 : decode cX10_paired 68 = .ok (.iload 7, 2) := by decide +kernel
theorem dX10_paired_70 : decode cX10_paired 70 = .ok (.iconst 2, 1) := by decide +kernel
theorem dX10_paired_71 : decode cX10_paired 71 = .ok (.iadd, 1) := by decide +kernel
theorem dX10_paired_72 : decode cX10_paired 72 = .ok (.iaload, 1) := by decide +kernel
theorem dX10_paired_73 : decode cX10_paired 73 = .ok (.goto 4, 3) := by decide +kernel
theorem dX10_paired_76 : decode cX10_paired 76 = .ok (.iconst 0, 1) := by decide +kernel
theorem dX10_paired_77 : decode cX10_paired 77 = .ok (.iadd, 1) := by decide +kernel
theorem dX10_paired_78 : decode cX10_paired 78 = .ok (.istore 5, 2) := by decide +kernel
theorem dX10_paired_80 : decode cX10_paired 80 = .ok (.iinc 6 1, 3) := by decide +kernel
theorem dX10_paired_83 : decode cX10_paired 83 = .ok (.goto (-77), 3) := by decide +kernel
theorem dX10_paired_86 : decode cX10_paired 86 = .ok (.iload 5, 2) := by decide +kernel
theorem dX10_paired_88 : decode cX10_paired 88 = .ok (.ireturn, 1) := by decide +kernel
theorem dX10_bothOf_0 : decode cX10_bothOf 0 = .ok (.aload_n 0, 1) := by decide +kernel
theorem dX10_bothOf_1 : decode cX10_bothOf 1 = .ok (.getfield 7, 3) := by decide +kernel
theorem dX10_bothOf_4 : decode cX10_bothOf 4 = .ok (.iconst 0, 1) := by decide +kernel
theorem dX10_bothOf_5 : decode cX10_bothOf 5 = .ok (.iload_n 1, 1) := by decide +kernel
theorem dX10_bothOf_6 : decode cX10_bothOf 6 = .ok (.iload_n 2, 1) := by decide +kernel
theorem dX10_bothOf_7 : decode cX10_bothOf 7 = .ok (.iconst 0, 1) := by decide +kernel
theorem dX10_bothOf_8 : decode cX10_bothOf 8 = .ok (.invokestatic 90, 3) := by decide +kernel
theorem dX10_bothOf_11 : decode cX10_bothOf 11 = .ok (.aload_n 0, 1) := by decide +kernel
theorem dX10_bothOf_12 : decode cX10_bothOf 12 = .ok (.iload_n 1, 1) := by decide +kernel
theorem dX10_bothOf_13 : decode cX10_bothOf 13 = .ok (.iload_n 2, 1) := by decide +kernel
theorem dX10_bothOf_14 : decode cX10_bothOf 14 = .ok (.iconst 0, 1) := by decide +kernel
theorem dX10_bothOf_15 : decode cX10_bothOf 15 = .ok (.bipush 99, 2) := by decide +kernel
theorem dX10_bothOf_17 : decode cX10_bothOf 17 = .ok (.invokevirtual 98, 3) := by decide +kernel
theorem dX10_bothOf_20 : decode cX10_bothOf 20 = .ok (.isub, 1) := by decide +kernel
theorem dX10_bothOf_21 : decode cX10_bothOf 21 = .ok (.istore 5, 2) := by decide +kernel
theorem dX10_bothOf_23 : decode cX10_bothOf 23 = .ok (.aload_n 0, 1) := by decide +kernel
theorem dX10_bothOf_24 : decode cX10_bothOf 24 = .ok (.getfield 7, 3) := by decide +kernel
theorem dX10_bothOf_27 : decode cX10_bothOf 27 = .ok (.iconst 1, 1) := by decide +kernel
theorem dX10_bothOf_28 : decode cX10_bothOf 28 = .ok (.iload_n 3, 1) := by decide +kernel
theorem dX10_bothOf_29 : decode cX10_bothOf 29 = .ok (.iload 4, 2) := by decide +kernel
theorem dX10_bothOf_31 : decode cX10_bothOf 31 = .ok (.iconst 0, 1) := by decide +kernel
theorem dX10_bothOf_32 : decode cX10_bothOf 32 = .ok (.invokestatic 90, 3) := by decide +kernel
theorem dX10_bothOf_35 : decode cX10_bothOf 35 = .ok (.aload_n 0, 1) := by decide +kernel
theorem dX10_bothOf_36 : decode cX10_bothOf 36 = .ok (.iconst 0, 1) := by decide +kernel
theorem dX10_bothOf_37 : decode cX10_bothOf 37 = .ok (.bipush 99, 2) := by decide +kernel
theorem dX10_bothOf_39 : decode cX10_bothOf 39 = .ok (.iload_n 3, 1) := by decide +kernel
theorem dX10_bothOf_40 : decode cX10_bothOf 40 = .ok (.iload 4, 2) := by decide +kernel
theorem dX10_bothOf_42 : decode cX10_bothOf 42 = .ok (.invokevirtual 98, 3) := by decide +kernel
theorem dX10_bothOf_45 : decode cX10_bothOf 45 = .ok (.isub, 1) := by decide +kernel
theorem dX10_bothOf_46 : decode cX10_bothOf 46 = .ok (.istore 6, 2) := by decide +kernel
theorem dX10_bothOf_48 : decode cX10_bothOf 48 = .ok (.aload_n 0, 1) := by decide +kernel
theorem dX10_bothOf_49 : decode cX10_bothOf 49 = .ok (.getfield 7, 3) := by decide +kernel
theorem dX10_bothOf_52 : decode cX10_bothOf 52 = .ok (.iconst 2, 1) := by decide +kernel
theorem dX10_bothOf_53 : decode cX10_bothOf 53 = .ok (.iaload, 1) := by decide +kernel
theorem dX10_bothOf_54 : decode cX10_bothOf 54 = .ok (.aload_n 0, 1) := by decide +kernel
theorem dX10_bothOf_55 : decode cX10_bothOf 55 = .ok (.iconst 0, 1) := by decide +kernel
theorem dX10_bothOf_56 : decode cX10_bothOf 56 = .ok (.bipush 99, 2) := by decide +kernel
theorem dX10_bothOf_58 : decode cX10_bothOf 58 = .ok (.iconst 0, 1) := by decide +kernel
theorem dX10_bothOf_59 : decode cX10_bothOf 59 = .ok (.bipush 99, 2) := by decide +kernel
theorem dX10_bothOf_61 : decode cX10_bothOf 61 = .ok (.invokevirtual 98, 3) := by decide +kernel
theorem dX10_bothOf_64 : decode cX10_bothOf 64 = .ok (.isub, 1) := by decide +kernel
theorem dX10_bothOf_65 : decode cX10_bothOf 65 = .ok (.istore 7, 2) := by decide +kernel
theorem dX10_bothOf_67 : decode cX10_bothOf 67 = .ok (.iload 7, 2) := by decide +kernel
theorem dX10_bothOf_69 : decode cX10_bothOf 69 = .ok (.ifCond .eq 13, 3) := by decide +kernel
theorem dX10_bothOf_72 : decode cX10_bothOf 72 = .ok (.iload 5, 2) := by decide +kernel
theorem dX10_bothOf_74 : decode cX10_bothOf 74 = .ok (.ifCond .lt 8, 3) := by decide +kernel
theorem dX10_bothOf_77 : decode cX10_bothOf 77 = .ok (.iload 6, 2) := by decide +kernel
theorem dX10_bothOf_79 : decode cX10_bothOf 79 = .ok (.ifCond .ge 7, 3) := by decide +kernel
theorem dX10_bothOf_82 : decode cX10_bothOf 82 = .ok (.iconst 0, 1) := by decide +kernel
theorem dX10_bothOf_83 : decode cX10_bothOf 83 = .ok (.goto 11, 3) := by decide +kernel
theorem dX10_bothOf_86 : decode cX10_bothOf 86 = .ok (.iload 5, 2) := by decide +kernel
theorem dX10_bothOf_88 : decode cX10_bothOf 88 = .ok (.iload 6, 2) := by decide +kernel
theorem dX10_bothOf_90 : decode cX10_bothOf 90 = .ok (.imul, 1) := by decide +kernel
theorem dX10_bothOf_91 : decode cX10_bothOf 91 = .ok (.iload 7, 2) := by decide +kernel
theorem dX10_bothOf_93 : decode cX10_bothOf 93 = .ok (.idiv, 1) := by decide +kernel
theorem dX10_bothOf_94 : decode cX10_bothOf 94 = .ok (.istore 8, 2) := by decide +kernel
theorem dX10_bothOf_96 : decode cX10_bothOf 96 = .ok (.aload_n 0, 1) := by decide +kernel
theorem dX10_bothOf_97 : decode cX10_bothOf 97 = .ok (.iload_n 1, 1) := by decide +kernel
theorem dX10_bothOf_98 : decode cX10_bothOf 98 = .ok (.iload_n 2, 1) := by decide +kernel
theorem dX10_bothOf_99 : decode cX10_bothOf 99 = .ok (.iload_n 3, 1) := by decide +kernel
theorem dX10_bothOf_100 : decode cX10_bothOf 100 = .ok (.iload 4, 2) := by decide +kernel
theorem dX10_bothOf_102 : decode cX10_bothOf 102 = .ok (.invokevirtual 98, 3) := by decide +kernel
theorem dX10_bothOf_105 : decode cX10_bothOf 105 = .ok (.iload 8, 2) := by decide +kernel
theorem dX10_bothOf_107 : decode cX10_bothOf 107 = .ok (.iadd, 1) := by decide +kernel
theorem dX10_bothOf_108 : decode cX10_bothOf 108 = .ok (.ireturn, 1) := by decide +kernel
theorem dX10_both_0 : decode cX10_both 0 = .ok (.iload_n 1, 1) := by decide +kernel
theorem dX10_both_1 : decode cX10_both 1 = .ok (.iload_n 2, 1) := by decide +kernel
theorem dX10_both_2 : decode cX10_both 2 = .ok (.invokestatic 82, 3) := by decide +kernel
theorem dX10_both_5 : decode cX10_both 5 = .ok (.ifCond .eq 22, 3) := by decide +kernel
theorem dX10_both_8 : decode cX10_both 8 = .ok (.iload_n 3, 1) := by decide +kernel
theorem dX10_both_9 : decode cX10_both 9 = .ok (.iload 4, 2) := by decide +kernel
theorem dX10_both_11 : decode cX10_both 11 = .ok (.invokestatic 82, 3) := by decide +kernel
theorem dX10_both_14 : decode cX10_both 14 = .ok (.ifCond .eq 13, 3) := by decide +kernel
theorem dX10_both_17 : decode cX10_both 17 = .ok (.iload 5, 2) := by decide +kernel
theorem dX10_both_19 : decode cX10_both 19 = .ok (.iconst 0, 1) := by decide +kernel
theorem dX10_both_20 : decode cX10_both 20 = .ok (.iconst 2, 1) := by decide +kernel
theorem dX10_both_21 : decode cX10_both 21 = .ok (.invokestatic 35, 3) := by decide +kernel
theorem dX10_both_24 : decode cX10_both 24 = .ok (.ifCond .ne 6, 3) := by decide +kernel
theorem dX10_both_27 : decode cX10_both 27 = .ok (.bipush (-2), 2) := by decide +kernel
theorem dX10_both_29 : decode cX10_both 29 = .ok (.ireturn, 1) := by decide +kernel
theorem dX10_both_30 : decode cX10_both 30 = .ok (.iload 5, 2) := by decide +kernel
theorem dX10_both_32 : decode cX10_both 32 = .ok (.iconst 2, 1) := by decide +kernel
theorem dX10_both_33 : decode cX10_both 33 = .ok (.if_icmp .ne 76, 3) := by decide +kernel
theorem dX10_both_36 : decode cX10_both 36 = .ok (.iconst 0, 1) := by decide +kernel
theorem dX10_both_37 : decode cX10_both 37 = .ok (.istore 6, 2) := by decide +kernel
theorem dX10_both_39 : decode cX10_both 39 = .ok (.iconst 0, 1) := by decide +kernel
theorem dX10_both_40 : decode cX10_both 40 = .ok (.istore 7, 2) := by decide +kernel
theorem dX10_both_42 : decode cX10_both 42 = .ok (.iload 7, 2) := by decide +kernel
theorem dX10_both_44 : decode cX10_both 44 = .ok (.aload_n 0, 1) := by decide +kernel
theorem dX10_both_45 : decode cX10_both 45 = .ok (.getfield 7, 3) := by decide +kernel
theorem dX10_both_48 : decode cX10_both 48 = .ok (.iconst 0, 1) := by decide +kernel
theorem dX10_both_49 : decode cX10_both 49 = .ok (.iaload, 1) := by decide +kernel
theorem dX10_both_50 : decode cX10_both 50 = .ok (.if_icmp .ge 56, 3) := by decide +kernel
theorem dX10_both_53 : decode cX10_both 53 = .ok (.iload 6, 2) := by decide +kernel
theorem dX10_both_55 : decode cX10_both 55 = .ok (.aload_n 0, 1) := by decide +kernel
theorem dX10_both_56 : decode cX10_both 56 = .ok (.getfield 7, 3) := by decide +kernel
theorem dX10_both_59 : decode cX10_both 59 = .ok (.iload 7, 2) := by decide +kernel
theorem dX10_both_61 : decode cX10_both 61 = .ok (.iconst 0, 1) := by decide +kernel
theorem dX10_both_62 : decode cX10_both 62 = .ok (.invokestatic 54, 3) := by decide +kernel
theorem dX10_both_65 : decode cX10_both 65 = .ok (.iload_n 1, 1) := by decide +kernel
theorem dX10_both_66 : decode cX10_both 66 = .ok (.iload_n 2, 1) := by decide +kernel
theorem dX10_both_67 : decode cX10_both 67 = .ok (.invokestatic 35, 3) := by decide +kernel
theorem dX10_both_70 : decode cX10_both 70 = .ok (.ifCond .eq 26, 3) := by decide +kernel
theorem dX10_both_73 : decode cX10_both 73 = .ok (.aload_n 0, 1) := by decide +kernel
theorem dX10_both_74 : decode cX10_both 74 = .ok (.getfield 7, 3) := by decide +kernel
theorem dX10_both_77 : decode cX10_both 77 = .ok (.iload 7, 2) := by decide +kernel
theorem dX10_both_79 : decode cX10_both 79 = .ok (.iconst 1, 1) := by decide +kernel
theorem dX10_both_80 : decode cX10_both 80 = .ok (.invokestatic 54, 3) := by decide +kernel
theorem dX10_both_83 : decode cX10_both 83 = .ok (.iload_n 3, 1) := by decide +kernel
theorem dX10_both_84 : decode cX10_both 84 = .ok (.iload 4, 2) := by decide +kernel
theorem dX10_both_86 : decode cX10_both 86 = .ok (.invokestatic 35, 3) := by decide +kernel
theorem dX10_both_89 : decode cX10_both 89 = .ok (.ifCond .eq 7, 3) := by decide +kernel
theorem dX10_both_92 : decode cX10_both 92 = .ok (.iconst 1, 1) := by decide +kernel
theorem dX10_both_93 : decode cX10_both 93 = .ok (.goto 4, 3) := by decide +kernel
theorem dX10_both_96 : decode cX10_both 96 = .ok (.iconst 0, 1) := by decide +kernel
theorem dX10_both_97 : decode cX10_both 97 = .ok (.iadd, 1) := by decide +kernel
theorem dX10_both_98 : decode cX10_both 98 = .ok (.istore 6, 2) := by decide +kernel
theorem dX10_both_100 : decode cX10_both 100 = .ok (.iinc 7 1, 3) := by decide +kernel
theorem dX10_both_103 : decode cX10_both 103 = .ok (.goto (-61), 3) := by decide +kernel
theorem dX10_both_106 : decode cX10_both 106 = .ok (.iload 6, 2) := by decide +kernel
theorem dX10_both_108 : decode cX10_both 108 = .ok (.ireturn, 1) := by decide +kernel
theorem dX10_both_109 : decode cX10_both 109 = .ok (.aload_n 0, 1) := by decide +kernel
theorem dX10_both_110 : decode cX10_both 110 = .ok (.getfield 7, 3) := by decide +kernel
theorem dX10_both_113 : decode cX10_both 113 = .ok (.iconst 1, 1) := by decide +kernel
theorem dX10_both_114 : decode cX10_both 114 = .ok (.iaload, 1) := by decide +kernel
theorem dX10_both_115 : decode cX10_both 115 = .ok (.ifCond .ne 6, 3) := by decide +kernel
theorem dX10_both_118 : decode cX10_both 118 = .ok (.bipush (-6), 2) := by decide +kernel
theorem dX10_both_120 : decode cX10_both 120 = .ok (.ireturn, 1) := by decide +kernel
theorem dX10_both_121 : decode cX10_both 121 = .ok (.aload_n 0, 1) := by decide +kernel
theorem dX10_both_122 : decode cX10_both 122 = .ok (.iload_n 1, 1) := by decide +kernel
theorem dX10_both_123 : decode cX10_both 123 = .ok (.iload_n 2, 1) := by decide +kernel
theorem dX10_both_124 : decode cX10_both 124 = .ok (.iload_n 3, 1) := by decide +kernel
theorem dX10_both_125 : decode cX10_both 125 = .ok (.iload 4, 2) := by decide +kernel
theorem dX10_both_127 : decode cX10_both 127 = .ok (.invokevirtual 102, 3) := by decide +kernel
theorem dX10_both_130 : decode cX10_both 130 = .ok (.istore 6, 2) := by decide +kernel
theorem dX10_both_132 : decode cX10_both 132 = .ok (.iload 5, 2) := by decide +kernel
theorem dX10_both_134 : decode cX10_both 134 = .ok (.ifCond .ne 8, 3) := by decide +kernel
theorem dX10_both_137 : decode cX10_both 137 = .ok (.iload 6, 2) := by decide +kernel
theorem dX10_both_139 : decode cX10_both 139 = .ok (.goto 9, 3) := by decide +kernel
theorem dX10_both_142 : decode cX10_both 142 = .ok (.aload_n 0, 1) := by decide +kernel
theorem dX10_both_143 : decode cX10_both 143 = .ok (.iload 6, 2) := by decide +kernel
theorem dX10_both_145 : decode cX10_both 145 = .ok (.invokevirtual 94, 3) := by decide +kernel
theorem dX10_both_148 : decode cX10_both 148 = .ok (.ireturn, 1) := by decide +kernel
theorem dX10_share_0 : decode cX10_share 0 = .ok (.iload_n 1, 1) := by decide +kernel
theorem dX10_share_1 : decode cX10_share 1 = .ok (.invokestatic 79, 3) := by decide +kernel
theorem dX10_share_4 : decode cX10_share 4 = .ok (.ifCond .eq 11, 3) := by decide +kernel
theorem dX10_share_7 : decode cX10_share 7 = .ok (.iload_n 2, 1) := by decide +kernel
theorem dX10_share_8 : decode cX10_share 8 = .ok (.iload_n 3, 1) := by decide +kernel
theorem dX10_share_9 : decode cX10_share 9 = .ok (.invokestatic 82, 3) := by decide +kernel
theorem dX10_share_12 : decode cX10_share 12 = .ok (.ifCond .ne 6, 3) := by decide +kernel
theorem dX10_share_15 : decode cX10_share 15 = .ok (.bipush (-2), 2) := by decide +kernel
theorem dX10_share_17 : decode cX10_share 17 = .ok (.ireturn, 1) := by decide +kernel
theorem dX10_share_18 : decode cX10_share 18 = .ok (.aload_n 0, 1) := by decide +kernel
theorem dX10_share_19 : decode cX10_share 19 = .ok (.getfield 7, 3) := by decide +kernel
theorem dX10_share_22 : decode cX10_share 22 = .ok (.iconst 1, 1) := by decide +kernel
theorem dX10_share_23 : decode cX10_share 23 = .ok (.iaload, 1) := by decide +kernel
theorem dX10_share_24 : decode cX10_share 24 = .ok (.ifCond .ne 8, 3) := by decide +kernel
theorem dX10_share_27 : decode cX10_share 27 = .ok (.bipush (-6), 2) := by decide +kernel
theorem dX10_share_29 : decode cX10_share 29 = .ok (.goto 27, 3) := by decide +kernel
theorem dX10_share_32 : decode cX10_share 32 = .ok (.aload_n 0, 1) := by decide +kernel
theorem dX10_share_33 : decode cX10_share 33 = .ok (.getfield 7, 3) := by decide +kernel
theorem dX10_share_36 : decode cX10_share 36 = .ok (.iload_n 1, 1) := by decide +kernel
theorem dX10_share_37 : decode cX10_share 37 = .ok (.iload_n 2, 1) := by decide +kernel
theorem dX10_share_38 : decode cX10_share 38 = .ok (.iload_n 3, 1) := by decide +kernel
theorem dX10_share_39 : decode cX10_share 39 = .ok (.iconst 0, 1) := by decide +kernel
theorem dX10_share_40 : decode cX10_share 40 = .ok (.invokestatic 90, 3) := by decide +kernel
theorem dX10_share_43 : decode cX10_share 43 = .ok (.i2d, 1) := by decide +kernel
theorem dX10_share_44 : decode cX10_share 44 = .ok (.aload_n 0, 1) := by decide +kernel
theorem dX10_share_45 : decode cX10_share 45 = .ok (.getfield 7, 3) := by decide +kernel
theorem dX10_share_48 : decode cX10_share 48 = .ok (.iconst 2, 1) := by decide +kernel
theorem dX10_share_49 : decode cX10_share 49 = .ok (.iaload, 1) := by decide +kernel
theorem dX10_share_50 : decode cX10_share 50 = .ok (.i2d, 1) := by decide +kernel
theorem dX10_share_51 : decode cX10_share 51 = .ok (.ddiv, 1) := by decide +kernel
theorem dX10_share_52 : decode cX10_share 52 = .ok (.d2f, 1) := by decide +kernel
theorem dX10_share_53 : decode cX10_share 53 = .ok (.invokestatic 105, 3) := by decide +kernel
theorem dX10_share_56 : decode cX10_share 56 = .ok (.ireturn, 1) := by decide +kernel
theorem dX10_height_0 : decode cX10_height 0 = .ok (.iload_n 1, 1) := by decide +kernel
theorem dX10_height_1 : decode cX10_height 1 = .ok (.invokestatic 79, 3) := by decide +kernel
theorem dX10_height_4 : decode cX10_height 4 = .ok (.ifCond .ne 7, 3) := by decide +kernel
theorem dX10_height_7 : decode cX10_height 7 = .ok (.ldc2_w 111, 3) := by decide +kernel
theorem dX10_height_10 : decode cX10_height 10 = .ok (.lreturn, 1) := by decide +kernel
theorem dX10_height_11 : decode cX10_height 11 = .ok (.iconst 0, 1) := by decide +kernel
theorem dX10_height_12 : decode cX10_height 12 = .ok (.istore_n 2, 1) := by decide +kernel
theorem dX10_height_13 : decode cX10_height 13 = .ok (.iconst 0, 1) := by decide +kernel
theorem dX10_height_14 : decode cX10_height 14 = .ok (.istore_n 3, 1) := by decide +kernel
theorem dX10_height_15 : decode cX10_height 15 = .ok (.iload_n 3, 1) := by decide +kernel
theorem dX10_height_16 : decode cX10_height 16 = .ok (.aload_n 0, 1) := by decide +kernel
theorem dX10_height_17 : decode cX10_height 17 = .ok (.getfield 7, 3) := by decide +kernel
theorem dX10_height_20 : decode cX10_height 20 = .ok (.sipush 128, 3) := by decide +kernel
theorem dX10_height_23 : decode cX10_height 23 = .ok (.iload_n 1, 1) := by decide +kernel
theorem dX10_height_24 : decode cX10_height 24 = .ok (.iadd, 1) := by decide +kernel
theorem dX10_height_25 : decode cX10_height 25 = .ok (.iaload, 1) := by decide +kernel
theorem dX10_height_26 : decode cX10_height 26 = .ok (.if_icmp .ge 31, 3) := by decide +kernel
theorem dX10_height_29 : decode cX10_height 29 = .ok (.iload_n 2, 1) := by decide +kernel
theorem dX10_height_30 : decode cX10_height 30 = .ok (.aload_n 0, 1) := by decide +kernel
theorem dX10_height_31 : decode cX10_height 31 = .ok (.getfield 7, 3) := by decide +kernel
theorem dX10_height_34 : decode cX10_height 34 = .ok (.sipush 130, 3) := by decide +kernel
theorem dX10_height_37 : decode cX10_height 37 = .ok (.bipush 40, 2) := by decide +kernel
theorem dX10_height_39 : decode cX10_height 39 = .ok (.iload_n 1, 1) := by decide +kernel
theorem dX10_height_40 : decode cX10_height 40 = .ok (.imul, 1) := by decide +kernel
theorem dX10_height_41 : decode cX10_height 41 = .ok (.iadd, 1) := by decide +kernel
theorem dX10_height_42 : decode cX10_height 42 = .ok (.iconst 4, 1) := by decide +kernel
theorem dX10_height_43 : decode cX10_height 43 = .ok (.iload_n 3, 1) := by decide +kernel
theorem dX10_height_44 : decode cX10_height 44 = .ok (.imul, 1) := by decide +kernel
theorem dX10_height_45 : decode cX10_height 45 = .ok (.iadd, 1) := by decide +kernel
theorem dX10_height_46 : decode cX10_height 46 = .ok (.iconst 2, 1) := by decide +kernel
theorem dX10_height_47 : decode cX10_height 47 = .ok (.iadd, 1) := by decide +kernel
theorem dX10_height_48 : decode cX10_height 48 = .ok (.iaload, 1) := by decide +kernel
theorem dX10_height_49 : decode cX10_height 49 = .ok (.iadd, 1) := by decide +kernel
theorem dX10_height_50 : decode cX10_height 50 = .ok (.istore_n 2, 1) := by decide +kernel
theorem dX10_height_51 : decode cX10_height 51 = .ok (.iinc 3 1, 3) := by decide +kernel
theorem dX10_height_54 : decode cX10_height 54 = .ok (.goto (-39), 3) := by decide +kernel
theorem dX10_height_57 : decode cX10_height 57 = .ok (.aload_n 0, 1) := by decide +kernel
theorem dX10_height_58 : decode cX10_height 58 = .ok (.getfield 7, 3) := by decide +kernel
theorem dX10_height_61 : decode cX10_height 61 = .ok (.sipush 128, 3) := by decide +kernel
theorem dX10_height_64 : decode cX10_height 64 = .ok (.iload_n 1, 1) := by decide +kernel
theorem dX10_height_65 : decode cX10_height 65 = .ok (.iadd, 1) := by decide +kernel
theorem dX10_height_66 : decode cX10_height 66 = .ok (.iaload, 1) := by decide +kernel
theorem dX10_height_67 : decode cX10_height 67 = .ok (.ifCond .ne 7, 3) := by decide +kernel
theorem dX10_height_70 : decode cX10_height 70 = .ok (.lconst 0, 1) := by decide +kernel
theorem dX10_height_71 : decode cX10_height 71 = .ok (.goto 20, 3) := by decide +kernel
theorem dX10_height_74 : decode cX10_height 74 = .ok (.iload_n 2, 1) := by decide +kernel
theorem dX10_height_75 : decode cX10_height 75 = .ok (.i2d, 1) := by decide +kernel
theorem dX10_height_76 : decode cX10_height 76 = .ok (.aload_n 0, 1) := by decide +kernel
theorem dX10_height_77 : decode cX10_height 77 = .ok (.getfield 7, 3) := by decide +kernel
theorem dX10_height_80 : decode cX10_height 80 = .ok (.sipush 128, 3) := by decide +kernel
theorem dX10_height_83 : decode cX10_height 83 = .ok (.iload_n 1, 1) := by decide +kernel
theorem dX10_height_84 : decode cX10_height 84 = .ok (.iadd, 1) := by decide +kernel
theorem dX10_height_85 : decode cX10_height 85 = .ok (.iaload, 1) := by decide +kernel
theorem dX10_height_86 : decode cX10_height 86 = .ok (.i2d, 1) := by decide +kernel
theorem dX10_height_87 : decode cX10_height 87 = .ok (.ddiv, 1) := by decide +kernel
theorem dX10_height_88 : decode cX10_height 88 = .ok (.invokestatic 113, 3) := by decide +kernel
theorem dX10_height_91 : decode cX10_height 91 = .ok (.lreturn, 1) := by decide +kernel
theorem dX10_off_0 : decode cX10_off 0 = .ok (.aload_n 0, 1) := by decide +kernel
theorem dX10_off_1 : decode cX10_off 1 = .ok (.iload_n 1, 1) := by decide +kernel
theorem dX10_off_2 : decode cX10_off 2 = .ok (.iload_n 2, 1) := by decide +kernel
theorem dX10_off_3 : decode cX10_off 3 = .ok (.iload_n 2, 1) := by decide +kernel
theorem dX10_off_4 : decode cX10_off 4 = .ok (.iconst 0, 1) := by decide +kernel
theorem dX10_off_5 : decode cX10_off 5 = .ok (.invokestatic 90, 3) := by decide +kernel
theorem dX10_off_8 : decode cX10_off 8 = .ok (.aload_n 0, 1) := by decide +kernel
theorem dX10_off_9 : decode cX10_off 9 = .ok (.iload_n 1, 1) := by decide +kernel
theorem dX10_off_10 : decode cX10_off 10 = .ok (.iload_n 2, 1) := by decide +kernel
theorem dX10_off_11 : decode cX10_off 11 = .ok (.invokestatic 50, 3) := by decide +kernel
theorem dX10_off_14 : decode cX10_off 14 = .ok (.isub, 1) := by decide +kernel
theorem dX10_off_15 : decode cX10_off 15 = .ok (.istore_n 3, 1) := by decide +kernel
theorem dX10_off_16 : decode cX10_off 16 = .ok (.iload_n 3, 1) := by decide +kernel
theorem dX10_off_17 : decode cX10_off 17 = .ok (.ifCond .ge 8, 3) := by decide +kernel
theorem dX10_off_20 : decode cX10_off 20 = .ok (.iload_n 3, 1) := by decide +kernel
theorem dX10_off_21 : decode cX10_off 21 = .ok (.ineg, 1) := by decide +kernel
theorem dX10_off_22 : decode cX10_off 22 = .ok (.goto 4, 3) := by decide +kernel
theorem dX10_off_25 : decode cX10_off 25 = .ok (.iload_n 3, 1) := by decide +kernel
theorem dX10_off_26 : decode cX10_off 26 = .ok (.ireturn, 1) := by decide +kernel
theorem dX10_worstOf_0 : decode cX10_worstOf 0 = .ok (.iconst 0, 1) := by decide +kernel
theorem dX10_worstOf_1 : decode cX10_worstOf 1 = .ok (.istore_n 2, 1) := by decide +kernel
theorem dX10_worstOf_2 : decode cX10_worstOf 2 = .ok (.iconst 1, 1) := by decide +kernel
theorem dX10_worstOf_3 : decode cX10_worstOf 3 = .ok (.istore_n 3, 1) := by decide +kernel
theorem dX10_worstOf_4 : decode cX10_worstOf 4 = .ok (.iload_n 3, 1) := by decide +kernel
theorem dX10_worstOf_5 : decode cX10_worstOf 5 = .ok (.bipush 100, 2) := by decide +kernel
theorem dX10_worstOf_7 : decode cX10_worstOf 7 = .ok (.if_icmp .ge 30, 3) := by decide +kernel
theorem dX10_worstOf_10 : decode cX10_worstOf 10 = .ok (.aload_n 0, 1) := by decide +kernel
theorem dX10_worstOf_11 : decode cX10_worstOf 11 = .ok (.iload_n 1, 1) := by decide +kernel
theorem dX10_worstOf_12 : decode cX10_worstOf 12 = .ok (.iload_n 3, 1) := by decide +kernel
theorem dX10_worstOf_13 : decode cX10_worstOf 13 = .ok (.invokestatic 119, 3) := by decide +kernel
theorem dX10_worstOf_16 : decode cX10_worstOf 16 = .ok (.aload_n 0, 1) := by decide +kernel
theorem dX10_worstOf_17 : decode cX10_worstOf 17 = .ok (.iload_n 1, 1) := by decide +kernel
theorem dX10_worstOf_18 : decode cX10_worstOf 18 = .ok (.iload_n 2, 1) := by decide +kernel
theorem dX10_worstOf_19 : decode cX10_worstOf 19 = .ok (.invokestatic 119, 3) := by decide +kernel
theorem dX10_worstOf_22 : decode cX10_worstOf 22 = .ok (.if_icmp .le 7, 3) := by decide +kernel
theorem dX10_worstOf_25 : decode cX10_worstOf 25 = .ok (.iload_n 3, 1) := by decide +kernel
theorem dX10_worstOf_26 : decode cX10_worstOf 26 = .ok (.goto 4, 3) := by decide +kernel
theorem dX10_worstOf_29 : decode cX10_worstOf 29 = .ok (.iload_n 2, 1) := by decide +kernel
theorem dX10_worstOf_30 : decode cX10_worstOf 30 = .ok (.istore_n 2, 1) := by decide +kernel
theorem dX10_worstOf_31 : decode cX10_worstOf 31 = .ok (.iinc 3 1, 3) := by decide +kernel
theorem dX10_worstOf_34 : decode cX10_worstOf 34 = .ok (.goto (-30), 3) := by decide +kernel
theorem dX10_worstOf_37 : decode cX10_worstOf 37 = .ok (.iload_n 2, 1) := by decide +kernel
theorem dX10_worstOf_38 : decode cX10_worstOf 38 = .ok (.ireturn, 1) := by decide +kernel
theorem dX10_worst_0 : decode cX10_worst 0 = .ok (.iload_n 1, 1) := by decide +kernel
theorem dX10_worst_1 : decode cX10_worst 1 = .ok (.invokestatic 79, 3) := by decide +kernel
theorem dX10_worst_4 : decode cX10_worst 4 = .ok (.ifCond .eq 12, 3) := by decide +kernel
theorem dX10_worst_7 : decode cX10_worst 7 = .ok (.iload_n 2, 1) := by decide +kernel
theorem dX10_worst_8 : decode cX10_worst 8 = .ok (.iconst 0, 1) := by decide +kernel
theorem dX10_worst_9 : decode cX10_worst 9 = .ok (.iconst 1, 1) := by decide +kernel
theorem dX10_worst_10 : decode cX10_worst 10 = .ok (.invokestatic 35, 3) := by decide +kernel
theorem dX10_worst_13 : decode cX10_worst 13 = .ok (.ifCond .ne 6, 3) := by decide +kernel
theorem dX10_worst_16 : decode cX10_worst 16 = .ok (.bipush (-2), 2) := by decide +kernel
theorem dX10_worst_18 : decode cX10_worst 18 = .ok (.ireturn, 1) := by decide +kernel
theorem dX10_worst_19 : decode cX10_worst 19 = .ok (.aload_n 0, 1) := by decide +kernel
theorem dX10_worst_20 : decode cX10_worst 20 = .ok (.getfield 7, 3) := by decide +kernel
theorem dX10_worst_23 : decode cX10_worst 23 = .ok (.iconst 1, 1) := by decide +kernel
theorem dX10_worst_24 : decode cX10_worst 24 = .ok (.iaload, 1) := by decide +kernel
theorem dX10_worst_25 : decode cX10_worst 25 = .ok (.ifCond .ne 6, 3) := by decide +kernel
theorem dX10_worst_28 : decode cX10_worst 28 = .ok (.bipush (-6), 2) := by decide +kernel
theorem dX10_worst_30 : decode cX10_worst 30 = .ok (.ireturn, 1) := by decide +kernel
theorem dX10_worst_31 : decode cX10_worst 31 = .ok (.aload_n 0, 1) := by decide +kernel
theorem dX10_worst_32 : decode cX10_worst 32 = .ok (.getfield 7, 3) := by decide +kernel
theorem dX10_worst_35 : decode cX10_worst 35 = .ok (.iload_n 1, 1) := by decide +kernel
theorem dX10_worst_36 : decode cX10_worst 36 = .ok (.invokestatic 122, 3) := by decide +kernel
theorem dX10_worst_39 : decode cX10_worst 39 = .ok (.istore_n 3, 1) := by decide +kernel
theorem dX10_worst_40 : decode cX10_worst 40 = .ok (.iload_n 2, 1) := by decide +kernel
theorem dX10_worst_41 : decode cX10_worst 41 = .ok (.ifCond .ne 7, 3) := by decide +kernel
theorem dX10_worst_44 : decode cX10_worst 44 = .ok (.iload_n 3, 1) := by decide +kernel
theorem dX10_worst_45 : decode cX10_worst 45 = .ok (.goto 12, 3) := by decide +kernel
theorem dX10_worst_48 : decode cX10_worst 48 = .ok (.aload_n 0, 1) := by decide +kernel
theorem dX10_worst_49 : decode cX10_worst 49 = .ok (.getfield 7, 3) := by decide +kernel
theorem dX10_worst_52 : decode cX10_worst 52 = .ok (.iload_n 1, 1) := by decide +kernel
theorem dX10_worst_53 : decode cX10_worst 53 = .ok (.iload_n 3, 1) := by decide +kernel
theorem dX10_worst_54 : decode cX10_worst 54 = .ok (.invokestatic 119, 3) := by decide +kernel
theorem dX10_worst_57 : decode cX10_worst 57 = .ok (.ireturn, 1) := by decide +kernel
theorem dX10_fewest_0 : decode cX10_fewest 0 = .ok (.iload_n 1, 1) := by decide +kernel
theorem dX10_fewest_1 : decode cX10_fewest 1 = .ok (.invokestatic 79, 3) := by decide +kernel
theorem dX10_fewest_4 : decode cX10_fewest 4 = .ok (.ifCond .eq 13, 3) := by decide +kernel
theorem dX10_fewest_7 : decode cX10_fewest 7 = .ok (.iload_n 2, 1) := by decide +kernel
theorem dX10_fewest_8 : decode cX10_fewest 8 = .ok (.iconst 0, 1) := by decide +kernel
theorem dX10_fewest_9 : decode cX10_fewest 9 = .ok (.bipush 60, 2) := by decide +kernel
theorem dX10_fewest_11 : decode cX10_fewest 11 = .ok (.invokestatic 35, 3) := by decide +kernel
theorem dX10_fewest_14 : decode cX10_fewest 14 = .ok (.ifCond .ne 6, 3) := by decide +kernel
theorem dX10_fewest_17 : decode cX10_fewest 17 = .ok (.bipush (-2), 2) := by decide +kernel
theorem dX10_fewest_19 : decode cX10_fewest 19 = .ok (.ireturn, 1) := by decide +kernel
theorem dX10_fewest_20 : decode cX10_fewest 20 = .ok (.aload_n 0, 1) := by decide +kernel
theorem dX10_fewest_21 : decode cX10_fewest 21 = .ok (.getfield 7, 3) := by decide +kernel
theorem dX10_fewest_24 : decode cX10_fewest 24 = .ok (.iconst 0, 1) := by decide +kernel
theorem dX10_fewest_25 : decode cX10_fewest 25 = .ok (.iaload, 1) := by decide +kernel
theorem dX10_fewest_26 : decode cX10_fewest 26 = .ok (.ifCond .ne 6, 3) := by decide +kernel
theorem dX10_fewest_29 : decode cX10_fewest 29 = .ok (.bipush (-5), 2) := by decide +kernel
theorem dX10_fewest_31 : decode cX10_fewest 31 = .ok (.ireturn, 1) := by decide +kernel
theorem dX10_fewest_32 : decode cX10_fewest 32 = .ok (.iconst 1, 1) := by decide +kernel
theorem dX10_fewest_33 : decode cX10_fewest 33 = .ok (.istore_n 3, 1) := by decide +kernel
theorem dX10_fewest_34 : decode cX10_fewest 34 = .ok (.iload_n 3, 1) := by decide +kernel
theorem dX10_fewest_35 : decode cX10_fewest 35 = .ok (.bipush 10, 2) := by decide +kernel
theorem dX10_fewest_37 : decode cX10_fewest 37 = .ok (.if_icmp .gt 59, 3) := by decide +kernel
theorem dX10_fewest_40 : decode cX10_fewest 40 = .ok (.aload_n 0, 1) := by decide +kernel
theorem dX10_fewest_41 : decode cX10_fewest 41 = .ok (.getfield 7, 3) := by decide +kernel
theorem dX10_fewest_44 : decode cX10_fewest 44 = .ok (.iconst 0, 1) := by decide +kernel
theorem dX10_fewest_45 : decode cX10_fewest 45 = .ok (.aload_n 0, 1) := by decide +kernel
theorem dX10_fewest_46 : decode cX10_fewest 46 = .ok (.getfield 13, 3) := by decide +kernel
theorem dX10_fewest_49 : decode cX10_fewest 49 = .ok (.iconst 0, 1) := by decide +kernel
theorem dX10_fewest_50 : decode cX10_fewest 50 = .ok (.invokestatic 43, 3) := by decide +kernel
theorem dX10_fewest_53 : decode cX10_fewest 53 = .ok (.aload_n 0, 1) := by decide +kernel
theorem dX10_fewest_54 : decode cX10_fewest 54 = .ok (.getfield 13, 3) := by decide +kernel
theorem dX10_fewest_57 : decode cX10_fewest 57 = .ok (.iconst 4, 1) := by decide +kernel
theorem dX10_fewest_58 : decode cX10_fewest 58 = .ok (.iload_n 3, 1) := by decide +kernel
theorem dX10_fewest_59 : decode cX10_fewest 59 = .ok (.iastore, 1) := by decide +kernel
theorem dX10_fewest_60 : decode cX10_fewest 60 = .ok (.aload_n 0, 1) := by decide +kernel
theorem dX10_fewest_61 : decode cX10_fewest 61 = .ok (.aload_n 0, 1) := by decide +kernel
theorem dX10_fewest_62 : decode cX10_fewest 62 = .ok (.getfield 13, 3) := by decide +kernel
theorem dX10_fewest_65 : decode cX10_fewest 65 = .ok (.invokevirtual 126, 3) := by decide +kernel
theorem dX10_fewest_68 : decode cX10_fewest 68 = .ok (.aload_n 0, 1) := by decide +kernel
theorem dX10_fewest_69 : decode cX10_fewest 69 = .ok (.getfield 13, 3) := by decide +kernel
theorem dX10_fewest_72 : decode cX10_fewest 72 = .ok (.iload_n 1, 1) := by decide +kernel
theorem dX10_fewest_73 : decode cX10_fewest 73 = .ok (.aload_n 0, 1) := by decide +kernel
theorem dX10_fewest_74 : decode cX10_fewest 74 = .ok (.getfield 13, 3) := by decide +kernel
theorem dX10_fewest_77 : decode cX10_fewest 77 = .ok (.iload_n 1, 1) := by decide +kernel
theorem dX10_fewest_78 : decode cX10_fewest 78 = .ok (.invokestatic 122, 3) := by decide +kernel
theorem dX10_fewest_81 : decode cX10_fewest 81 = .ok (.invokestatic 119, 3) := by decide +kernel
theorem dX10_fewest_84 : decode cX10_fewest 84 = .ok (.iload_n 2, 1) := by decide +kernel
theorem dX10_fewest_85 : decode cX10_fewest 85 = .ok (.if_icmp .gt 5, 3) := by decide +kernel
theorem dX10_fewest_88 : decode cX10_fewest 88 = .ok (.iload_n 3, 1) := by decide +kernel
theorem dX10_fewest_89 : decode cX10_fewest 89 = .ok (.ireturn, 1) := by decide +kernel
theorem dX10_fewest_90 : decode cX10_fewest 90 = .ok (.iinc 3 1, 3) := by decide +kernel
theorem dX10_fewest_93 : decode cX10_fewest 93 = .ok (.goto (-59), 3) := by decide +kernel
theorem dX10_fewest_96 : decode cX10_fewest 96 = .ok (.bipush (-6), 2) := by decide +kernel
theorem dX10_fewest_98 : decode cX10_fewest 98 = .ok (.ireturn, 1) := by decide +kernel
theorem dX10_isFor_0 : decode cX10_isFor 0 = .ok (.iload_n 0, 1) := by decide +kernel
theorem dX10_isFor_1 : decode cX10_isFor 1 = .ok (.ifCond .ne 13, 3) := by decide +kernel
theorem dX10_isFor_4 : decode cX10_isFor 4 = .ok (.iload_n 1, 1) := by decide +kernel
theorem dX10_isFor_5 : decode cX10_isFor 5 = .ok (.iconst 1, 1) := by decide +kernel
theorem dX10_isFor_6 : decode cX10_isFor 6 = .ok (.bipush 10, 2) := by decide +kernel
theorem dX10_isFor_8 : decode cX10_isFor 8 = .ok (.invokestatic 35, 3) := by decide +kernel
theorem dX10_isFor_11 : decode cX10_isFor 11 = .ok (.goto 25, 3) := by decide +kernel
theorem dX10_isFor_14 : decode cX10_isFor 14 = .ok (.iload_n 0, 1) := by decide +kernel
theorem dX10_isFor_15 : decode cX10_isFor 15 = .ok (.iconst 3, 1) := by decide +kernel
theorem dX10_isFor_16 : decode cX10_isFor 16 = .ok (.if_icmp .ne 13, 3) := by decide +kernel
theorem dX10_isFor_19 : decode cX10_isFor 19 = .ok (.iload_n 1, 1) := by decide +kernel
theorem dX10_isFor_20 : decode cX10_isFor 20 = .ok (.iconst 0, 1) := by decide +kernel
theorem dX10_isFor_21 : decode cX10_isFor 21 = .ok (.bipush 100, 2) := by decide +kernel
theorem dX10_isFor_23 : decode cX10_isFor 23 = .ok (.invokestatic 35, 3) := by decide +kernel
theorem dX10_isFor_26 : decode cX10_isFor 26 = .ok (.goto 10, 3) := by decide +kernel
theorem dX10_isFor_29 : decode cX10_isFor 29 = .ok (.iload_n 1, 1) := by decide +kernel
theorem dX10_isFor_30 : decode cX10_isFor 30 = .ok (.iconst 0, 1) := by decide +kernel
theorem dX10_isFor_31 : decode cX10_isFor 31 = .ok (.bipush 6, 2) := by decide +kernel
theorem dX10_isFor_33 : decode cX10_isFor 33 = .ok (.invokestatic 35, 3) := by decide +kernel
theorem dX10_isFor_36 : decode cX10_isFor 36 = .ok (.ireturn, 1) := by decide +kernel
theorem dX10_sets_0 : decode cX10_sets 0 = .ok (.aload_n 0, 1) := by decide +kernel
theorem dX10_sets_1 : decode cX10_sets 1 = .ok (.getfield 7, 3) := by decide +kernel
theorem dX10_sets_4 : decode cX10_sets 4 = .ok (.iconst 4, 1) := by decide +kernel
theorem dX10_sets_5 : decode cX10_sets 5 = .ok (.iload_n 1, 1) := by decide +kernel
theorem dX10_sets_6 : decode cX10_sets 6 = .ok (.iadd, 1) := by decide +kernel
theorem dX10_sets_7 : decode cX10_sets 7 = .ok (.iaload, 1) := by decide +kernel
theorem dX10_sets_8 : decode cX10_sets 8 = .ok (.istore_n 3, 1) := by decide +kernel
theorem dX10_sets_9 : decode cX10_sets 9 = .ok (.aload_n 0, 1) := by decide +kernel
theorem dX10_sets_10 : decode cX10_sets 10 = .ok (.getfield 7, 3) := by decide +kernel
theorem dX10_sets_13 : decode cX10_sets 13 = .ok (.iconst 4, 1) := by decide +kernel
theorem dX10_sets_14 : decode cX10_sets 14 = .ok (.iload_n 1, 1) := by decide +kernel
theorem dX10_sets_15 : decode cX10_sets 15 = .ok (.iadd, 1) := by decide +kernel
theorem dX10_sets_16 : decode cX10_sets 16 = .ok (.iload_n 2, 1) := by decide +kernel
theorem dX10_sets_17 : decode cX10_sets 17 = .ok (.iastore, 1) := by decide +kernel
theorem dX10_sets_18 : decode cX10_sets 18 = .ok (.iload_n 3, 1) := by decide +kernel
theorem dX10_sets_19 : decode cX10_sets 19 = .ok (.ireturn, 1) := by decide +kernel
theorem dX10_set_0 : decode cX10_set 0 = .ok (.iload_n 1, 1) := by decide +kernel
theorem dX10_set_1 : decode cX10_set 1 = .ok (.iconst 0, 1) := by decide +kernel
theorem dX10_set_2 : decode cX10_set 2 = .ok (.iconst 3, 1) := by decide +kernel
theorem dX10_set_3 : decode cX10_set 3 = .ok (.invokestatic 35, 3) := by decide +kernel
theorem dX10_set_6 : decode cX10_set 6 = .ok (.ifCond .eq 11, 3) := by decide +kernel
theorem dX10_set_9 : decode cX10_set 9 = .ok (.iload_n 1, 1) := by decide +kernel
theorem dX10_set_10 : decode cX10_set 10 = .ok (.iload_n 2, 1) := by decide +kernel
theorem dX10_set_11 : decode cX10_set 11 = .ok (.invokestatic 129, 3) := by decide +kernel
theorem dX10_set_14 : decode cX10_set 14 = .ok (.ifCond .ne 6, 3) := by decide +kernel
theorem dX10_set_17 : decode cX10_set 17 = .ok (.bipush (-2), 2) := by decide +kernel
theorem dX10_set_19 : decode cX10_set 19 = .ok (.ireturn, 1) := by decide +kernel
theorem dX10_set_20 : decode cX10_set 20 = .ok (.aload_n 0, 1) := by decide +kernel
theorem dX10_set_21 : decode cX10_set 21 = .ok (.invokevirtual 47, 3) := by decide +kernel
theorem dX10_set_24 : decode cX10_set 24 = .ok (.aload_n 0, 1) := by decide +kernel
theorem dX10_set_25 : decode cX10_set 25 = .ok (.iload_n 1, 1) := by decide +kernel
theorem dX10_set_26 : decode cX10_set 26 = .ok (.iload_n 2, 1) := by decide +kernel
theorem dX10_set_27 : decode cX10_set 27 = .ok (.invokevirtual 132, 3) := by decide +kernel
theorem dX10_set_30 : decode cX10_set 30 = .ok (.ireturn, 1) := by decide +kernel
theorem dX10_mayCome_0 : decode cX10_mayCome 0 = .ok (.iload_n 1, 1) := by decide +kernel
theorem dX10_mayCome_1 : decode cX10_mayCome 1 = .ok (.invokestatic 75, 3) := by decide +kernel
theorem dX10_mayCome_4 : decode cX10_mayCome 4 = .ok (.ifCond .eq 10, 3) := by decide +kernel
theorem dX10_mayCome_7 : decode cX10_mayCome 7 = .ok (.iload_n 2, 1) := by decide +kernel
theorem dX10_mayCome_8 : decode cX10_mayCome 8 = .ok (.invokestatic 75, 3) := by decide +kernel
theorem dX10_mayCome_11 : decode cX10_mayCome 11 = .ok (.ifCond .ne 8, 3) := by decide +kernel
theorem dX10_mayCome_14 : decode cX10_mayCome 14 = .ok (.bipush (-2), 2) := by decide +kernel
theorem dX10_mayCome_16 : decode cX10_mayCome 16 = .ok (.goto 20, 3) := by decide +kernel
theorem dX10_mayCome_19 : decode cX10_mayCome 19 = .ok (.aload_n 0, 1) := by decide +kernel
theorem dX10_mayCome_20 : decode cX10_mayCome 20 = .ok (.getfield 7, 3) := by decide +kernel
theorem dX10_mayCome_23 : decode cX10_mayCome 23 = .ok (.iconst 0, 1) := by decide +kernel
theorem dX10_mayCome_24 : decode cX10_mayCome 24 = .ok (.iaload, 1) := by decide +kernel
theorem dX10_mayCome_25 : decode cX10_mayCome 25 = .ok (.bipush 60, 2) := by decide +kernel
theorem dX10_mayCome_27 : decode cX10_mayCome 27 = .ok (.if_icmp .ne 8, 3) := by decide +kernel
theorem dX10_mayCome_30 : decode cX10_mayCome 30 = .ok (.bipush (-4), 2) := by decide +kernel
theorem dX10_mayCome_32 : decode cX10_mayCome 32 = .ok (.goto 4, 3) := by decide +kernel
theorem dX10_mayCome_35 : decode cX10_mayCome 35 = .ok (.iconst 0, 1) := by decide +kernel
theorem dX10_mayCome_36 : decode cX10_mayCome 36 = .ok (.ireturn, 1) := by decide +kernel
theorem dX10_comes_0 : decode cX10_comes 0 = .ok (.aload_n 0, 1) := by decide +kernel
theorem dX10_comes_1 : decode cX10_comes 1 = .ok (.getfield 7, 3) := by decide +kernel
theorem dX10_comes_4 : decode cX10_comes 4 = .ok (.bipush 8, 2) := by decide +kernel
theorem dX10_comes_6 : decode cX10_comes 6 = .ok (.iconst 2, 1) := by decide +kernel
theorem dX10_comes_7 : decode cX10_comes 7 = .ok (.aload_n 0, 1) := by decide +kernel
theorem dX10_comes_8 : decode cX10_comes 8 = .ok (.getfield 7, 3) := by decide +kernel
theorem dX10_comes_11 : decode cX10_comes 11 = .ok (.iconst 0, 1) := by decide +kernel
theorem dX10_comes_12 : decode cX10_comes 12 = .ok (.iaload, 1) := by decide +kernel
theorem dX10_comes_13 : decode cX10_comes 13 = .ok (.imul, 1) := by decide +kernel
theorem dX10_comes_14 : decode cX10_comes 14 = .ok (.iadd, 1) := by decide +kernel
theorem dX10_comes_15 : decode cX10_comes 15 = .ok (.iload_n 1, 1) := by decide +kernel
theorem dX10_comes_16 : decode cX10_comes 16 = .ok (.iastore, 1) := by decide +kernel
theorem dX10_comes_17 : decode cX10_comes 17 = .ok (.aload_n 0, 1) := by decide +kernel
theorem dX10_comes_18 : decode cX10_comes 18 = .ok (.getfield 7, 3) := by decide +kernel
theorem dX10_comes_21 : decode cX10_comes 21 = .ok (.bipush 8, 2) := by decide +kernel
theorem dX10_comes_23 : decode cX10_comes 23 = .ok (.iconst 2, 1) := by decide +kernel
theorem dX10_comes_24 : decode cX10_comes 24 = .ok (.aload_n 0, 1) := by decide +kernel
theorem dX10_comes_25 : decode cX10_comes 25 = .ok (.getfield 7, 3) := by decide +kernel
theorem dX10_comes_28 : decode cX10_comes 28 = .ok (.iconst 0, 1) := by decide +kernel
theorem dX10_comes_29 : decode cX10_comes 29 = .ok (.iaload, 1) := by decide +kernel
theorem dX10_comes_30 : decode cX10_comes 30 = .ok (.imul, 1) := by decide +kernel
theorem dX10_comes_31 : decode cX10_comes 31 = .ok (.iadd, 1) := by decide +kernel
theorem dX10_comes_32 : decode cX10_comes 32 = .ok (.iconst 1, 1) := by decide +kernel
theorem dX10_comes_33 : decode cX10_comes 33 = .ok (.iadd, 1) := by decide +kernel
theorem dX10_comes_34 : decode cX10_comes 34 = .ok (.iload_n 2, 1) := by decide +kernel
theorem dX10_comes_35 : decode cX10_comes 35 = .ok (.iastore, 1) := by decide +kernel
theorem dX10_comes_36 : decode cX10_comes 36 = .ok (.aload_n 0, 1) := by decide +kernel
theorem dX10_comes_37 : decode cX10_comes 37 = .ok (.getfield 7, 3) := by decide +kernel
theorem dX10_comes_40 : decode cX10_comes 40 = .ok (.iconst 0, 1) := by decide +kernel
theorem dX10_comes_41 : decode cX10_comes 41 = .ok (.dup2, 1) := by decide +kernel
theorem dX10_comes_42 : decode cX10_comes 42 = .ok (.iaload, 1) := by decide +kernel
theorem dX10_comes_43 : decode cX10_comes 43 = .ok (.iconst 1, 1) := by decide +kernel
theorem dX10_comes_44 : decode cX10_comes 44 = .ok (.iadd, 1) := by decide +kernel
theorem dX10_comes_45 : decode cX10_comes 45 = .ok (.iastore, 1) := by decide +kernel
theorem dX10_comes_46 : decode cX10_comes 46 = .ok (.aload_n 0, 1) := by decide +kernel
theorem dX10_comes_47 : decode cX10_comes 47 = .ok (.getfield 7, 3) := by decide +kernel
theorem dX10_comes_50 : decode cX10_comes 50 = .ok (.iconst 3, 1) := by decide +kernel
theorem dX10_comes_51 : decode cX10_comes 51 = .ok (.dup2, 1) := by decide +kernel
theorem dX10_comes_52 : decode cX10_comes 52 = .ok (.iaload, 1) := by decide +kernel
theorem dX10_comes_53 : decode cX10_comes 53 = .ok (.aload_n 0, 1) := by decide +kernel
theorem dX10_comes_54 : decode cX10_comes 54 = .ok (.getfield 7, 3) := by decide +kernel
theorem dX10_comes_57 : decode cX10_comes 57 = .ok (.iconst 1, 1) := by decide +kernel
theorem dX10_comes_58 : decode cX10_comes 58 = .ok (.iaload, 1) := by decide +kernel
theorem dX10_comes_59 : decode cX10_comes 59 = .ok (.iadd, 1) := by decide +kernel
theorem dX10_comes_60 : decode cX10_comes 60 = .ok (.iastore, 1) := by decide +kernel
theorem dX10_comes_61 : decode cX10_comes 61 = .ok (.aload_n 0, 1) := by decide +kernel
theorem dX10_comes_62 : decode cX10_comes 62 = .ok (.getfield 7, 3) := by decide +kernel
theorem dX10_comes_65 : decode cX10_comes 65 = .ok (.iconst 0, 1) := by decide +kernel
theorem dX10_comes_66 : decode cX10_comes 66 = .ok (.iaload, 1) := by decide +kernel
theorem dX10_comes_67 : decode cX10_comes 67 = .ok (.iconst 1, 1) := by decide +kernel
theorem dX10_comes_68 : decode cX10_comes 68 = .ok (.isub, 1) := by decide +kernel
theorem dX10_comes_69 : decode cX10_comes 69 = .ok (.ireturn, 1) := by decide +kernel
theorem dX10_insert_0 : decode cX10_insert 0 = .ok (.aload_n 0, 1) := by decide +kernel
theorem dX10_insert_1 : decode cX10_insert 1 = .ok (.iload_n 1, 1) := by decide +kernel
theorem dX10_insert_2 : decode cX10_insert 2 = .ok (.iload_n 2, 1) := by decide +kernel
theorem dX10_insert_3 : decode cX10_insert 3 = .ok (.invokevirtual 136, 3) := by decide +kernel
theorem dX10_insert_6 : decode cX10_insert 6 = .ok (.istore_n 3, 1) := by decide +kernel
theorem dX10_insert_7 : decode cX10_insert 7 = .ok (.iload_n 3, 1) := by decide +kernel
theorem dX10_insert_8 : decode cX10_insert 8 = .ok (.ifCond .eq 5, 3) := by decide +kernel
theorem dX10_insert_11 : decode cX10_insert 11 = .ok (.iload_n 3, 1) := by decide +kernel
theorem dX10_insert_12 : decode cX10_insert 12 = .ok (.ireturn, 1) := by decide +kernel
theorem dX10_insert_13 : decode cX10_insert 13 = .ok (.aload_n 0, 1) := by decide +kernel
theorem dX10_insert_14 : decode cX10_insert 14 = .ok (.invokevirtual 47, 3) := by decide +kernel
theorem dX10_insert_17 : decode cX10_insert 17 = .ok (.aload_n 0, 1) := by decide +kernel
theorem dX10_insert_18 : decode cX10_insert 18 = .ok (.iload_n 1, 1) := by decide +kernel
theorem dX10_insert_19 : decode cX10_insert 19 = .ok (.iload_n 2, 1) := by decide +kernel
theorem dX10_insert_20 : decode cX10_insert 20 = .ok (.invokevirtual 139, 3) := by decide +kernel
theorem dX10_insert_23 : decode cX10_insert 23 = .ok (.ireturn, 1) := by decide +kernel
theorem dX10_isRow_0 : decode cX10_isRow 0 = .ok (.iload_n 1, 1) := by decide +kernel
theorem dX10_isRow_1 : decode cX10_isRow 1 = .ok (.iconst 0, 1) := by decide +kernel

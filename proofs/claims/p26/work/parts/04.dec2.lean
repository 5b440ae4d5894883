theorem dX8_backIn_71 : decode cX8_backIn 71 = .ok (.iinc 2 1, 3) := by decide +kernel
theorem dX8_backIn_74 : decode cX8_backIn 74 = .ok (.goto (-43), 3) := by decide +kernel
theorem dX8_backIn_77 : decode cX8_backIn 77 = .ok (.bipush (-5), 2) := by decide +kernel
theorem dX8_backIn_79 : decode cX8_backIn 79 = .ok (.ireturn, 1) := by decide +kernel
theorem dX8_count_0 : decode cX8_count 0 = .ok (.iload_n 1, 1) := by decide +kernel
theorem dX8_count_1 : decode cX8_count 1 = .ok (.tableswitch 183 0 11 #[63, 71, 79, 90, 98, 109, 117, 131, 145, 159, 167, 175], 63) := by decide +kernel
theorem dX8_count_64 : decode cX8_count 64 = .ok (.aload_n 0, 1) := by decide +kernel
theorem dX8_count_65 : decode cX8_count 65 = .ok (.getfield 10, 3) := by decide +kernel
theorem dX8_count_68 : decode cX8_count 68 = .ok (.getfield 207, 3) := by decide +kernel
theorem dX8_count_71 : decode cX8_count 71 = .ok (.ireturn, 1) := by decide +kernel
theorem dX8_count_72 : decode cX8_count 72 = .ok (.aload_n 0, 1) := by decide +kernel
theorem dX8_count_73 : decode cX8_count 73 = .ok (.getfield 10, 3) := by decide +kernel
theorem dX8_count_76 : decode cX8_count 76 = .ok (.getfield 100, 3) := by decide +kernel
theorem dX8_count_79 : decode cX8_count 79 = .ok (.ireturn, 1) := by decide +kernel
theorem dX8_count_80 : decode cX8_count 80 = .ok (.aload_n 0, 1) := by decide +kernel
theorem dX8_count_81 : decode cX8_count 81 = .ok (.getfield 10, 3) := by decide +kernel
theorem dX8_count_84 : decode cX8_count 84 = .ok (.getfield 179, 3) := by decide +kernel
theorem dX8_count_87 : decode cX8_count 87 = .ok (.getfield 194, 3) := by decide +kernel
theorem dX8_count_90 : decode cX8_count 90 = .ok (.ireturn, 1) := by decide +kernel
theorem dX8_count_91 : decode cX8_count 91 = .ok (.aload_n 0, 1) := by decide +kernel
theorem dX8_count_92 : decode cX8_count 92 = .ok (.getfield 10, 3) := by decide +kernel
theorem dX8_count_95 : decode cX8_count 95 = .ok (.getfield 110, 3) := by decide +kernel
theorem dX8_count_98 : decode cX8_count 98 = .ok (.ireturn, 1) := by decide +kernel
theorem dX8_count_99 : decode cX8_count 99 = .ok (.aload_n 0, 1) := by decide +kernel
theorem dX8_count_100 : decode cX8_count 100 = .ok (.getfield 10, 3) := by decide +kernel
theorem dX8_count_103 : decode cX8_count 103 = .ok (.getfield 113, 3) := by decide +kernel
theorem dX8_count_106 : decode cX8_count 106 = .ok (.getfield 117, 3) := by decide +kernel
theorem dX8_count_109 : decode cX8_count 109 = .ok (.ireturn, 1) := by decide +kernel
theorem dX8_count_110 : decode cX8_count 110 = .ok (.aload_n 0, 1) := by decide +kernel
theorem dX8_count_111 : decode cX8_count 111 = .ok (.getfield 10, 3) := by decide +kernel
theorem dX8_count_114 : decode cX8_count 114 = .ok (.getfield 217, 3) := by decide +kernel
theorem dX8_count_117 : decode cX8_count 117 = .ok (.ireturn, 1) := by decide +kernel
theorem dX8_count_118 : decode cX8_count 118 = .ok (.aload_n 0, 1) := by decide +kernel
theorem dX8_count_119 : decode cX8_count 119 = .ok (.getfield 10, 3) := by decide +kernel
theorem dX8_count_122 : decode cX8_count 122 = .ok (.getfield 47, 3) := by decide +kernel
theorem dX8_count_125 : decode cX8_count 125 = .ok (.getfield 188, 3) := by decide +kernel
theorem dX8_count_128 : decode cX8_count 128 = .ok (.invokevirtual 79, 3) := by decide +kernel
theorem dX8_count_131 : decode cX8_count 131 = .ok (.ireturn, 1) := by decide +kernel
theorem dX8_count_132 : decode cX8_count 132 = .ok (.aload_n 0, 1) := by decide +kernel
theorem dX8_count_133 : decode cX8_count 133 = .ok (.getfield 10, 3) := by decide +kernel
theorem dX8_count_136 : decode cX8_count 136 = .ok (.getfield 47, 3) := by decide +kernel
theorem dX8_count_139 : decode cX8_count 139 = .ok (.getfield 191, 3) := by decide +kernel
theorem dX8_count_142 : decode cX8_count 142 = .ok (.invokevirtual 79, 3) := by decide +kernel
theorem dX8_count_145 : decode cX8_count 145 = .ok (.ireturn, 1) := by decide +kernel
theorem dX8_count_146 : decode cX8_count 146 = .ok (.aload_n 0, 1) := by decide +kernel
theorem dX8_count_147 : decode cX8_count 147 = .ok (.getfield 10, 3) := by decide +kernel
theorem dX8_count_150 : decode cX8_count 150 = .ok (.getfield 47, 3) := by decide +kernel
theorem dX8_count_153 : decode cX8_count 153 = .ok (.getfield 69, 3) := by decide +kernel
theorem dX8_count_156 : decode cX8_count 156 = .ok (.invokevirtual 79, 3) := by decide +kernel
theorem dX8_count_159 : decode cX8_count 159 = .ok (.ireturn, 1) := by decide +kernel
theorem dX8_count_160 : decode cX8_count 160 = .ok (.aload_n 0, 1) := by decide +kernel
theorem dX8_count_161 : decode cX8_count 161 = .ok (.getfield 10, 3) := by decide +kernel
theorem dX8_count_164 : decode cX8_count 164 = .ok (.getfield 96, 3) := by decide +kernel
theorem dX8_count_167 : decode cX8_count 167 = .ok (.ireturn, 1) := by decide +kernel
theorem dX8_count_168 : decode cX8_count 168 = .ok (.aload_n 0, 1) := by decide +kernel
theorem dX8_count_169 : decode cX8_count 169 = .ok (.getfield 25, 3) := by decide +kernel
theorem dX8_count_172 : decode cX8_count 172 = .ok (.getfield 154, 3) := by decide +kernel
theorem dX8_count_175 : decode cX8_count 175 = .ok (.ireturn, 1) := by decide +kernel
theorem dX8_count_176 : decode cX8_count 176 = .ok (.aload_n 0, 1) := by decide +kernel
theorem dX8_count_177 : decode cX8_count 177 = .ok (.getfield 32, 3) := by decide +kernel
theorem dX8_count_180 : decode cX8_count 180 = .ok (.getfield 134, 3) := by decide +kernel
theorem dX8_count_183 : decode cX8_count 183 = .ok (.ireturn, 1) := by decide +kernel
theorem dX8_count_184 : decode cX8_count 184 = .ok (.bipush (-2), 2) := by decide +kernel
theorem dX8_count_186 : decode cX8_count 186 = .ok (.ireturn, 1) := by decide +kernel
theorem dX8_isBelow_0 : decode cX8_isBelow 0 = .ok (.iload_n 0, 1) := by decide +kernel
theorem dX8_isBelow_1 : decode cX8_isBelow 1 = .ok (.ifCond .lt 12, 3) := by decide +kernel
theorem dX8_isBelow_4 : decode cX8_isBelow 4 = .ok (.iload_n 0, 1) := by decide +kernel
theorem dX8_isBelow_5 : decode cX8_isBelow 5 = .ok (.iload_n 1, 1) := by decide +kernel
theorem dX8_isBelow_6 : decode cX8_isBelow 6 = .ok (.if_icmp .ge 7, 3) := by decide +kernel
theorem dX8_isBelow_9 : decode cX8_isBelow 9 = .ok (.iconst 1, 1) := by decide +kernel
theorem dX8_isBelow_10 : decode cX8_isBelow 10 = .ok (.goto 4, 3) := by decide +kernel
theorem dX8_isBelow_13 : decode cX8_isBelow 13 = .ok (.iconst 0, 1) := by decide +kernel
theorem dX8_isBelow_14 : decode cX8_isBelow 14 = .ok (.ireturn, 1) := by decide +kernel
theorem dX8_isStepsOfRun_0 : decode cX8_isStepsOfRun 0 = .ok (.iload_n 0, 1) := by decide +kernel
theorem dX8_isStepsOfRun_1 : decode cX8_isStepsOfRun 1 = .ok (.iconst 1, 1) := by decide +kernel
theorem dX8_isStepsOfRun_2 : decode cX8_isStepsOfRun 2 = .ok (.if_icmp .lt 14, 3) := by decide +kernel
theorem dX8_isStepsOfRun_5 : decode cX8_isStepsOfRun 5 = .ok (.iload_n 0, 1) := by decide +kernel
theorem dX8_isStepsOfRun_6 : decode cX8_isStepsOfRun 6 = .ok (.sipush 999, 3) := by decide +kernel
theorem dX8_isStepsOfRun_9 : decode cX8_isStepsOfRun 9 = .ok (.if_icmp .gt 7, 3) := by decide +kernel
theorem dX8_isStepsOfRun_12 : decode cX8_isStepsOfRun 12 = .ok (.iconst 1, 1) := by decide +kernel
theorem dX8_isStepsOfRun_13 : decode cX8_isStepsOfRun 13 = .ok (.goto 4, 3) := by decide +kernel
theorem dX8_isStepsOfRun_16 : decode cX8_isStepsOfRun 16 = .ok (.iconst 0, 1) := by decide +kernel
theorem dX8_isStepsOfRun_17 : decode cX8_isStepsOfRun 17 = .ok (.ireturn, 1) := by decide +kernel
theorem dL_cell1_0 : decode cL_cell1 0 = .ok (.iload_n 1, 1) := by decide +kernel
theorem dL_cell1_1 : decode cL_cell1 1 = .ok (.aload_n 0, 1) := by decide +kernel
theorem dL_cell1_2 : decode cL_cell1 2 = .ok (.arraylength, 1) := by decide +kernel
theorem dL_cell1_3 : decode cL_cell1 3 = .ok (.if_icmp .ge 9, 3) := by decide +kernel
theorem dL_cell1_6 : decode cL_cell1 6 = .ok (.aload_n 0, 1) := by decide +kernel
theorem dL_cell1_7 : decode cL_cell1 7 = .ok (.iload_n 1, 1) := by decide +kernel
theorem dL_cell1_8 : decode cL_cell1 8 = .ok (.iaload, 1) := by decide +kernel
theorem dL_cell1_9 : decode cL_cell1 9 = .ok (.goto 9, 3) := by decide +kernel
theorem dL_cell1_12 : decode cL_cell1 12 = .ok (.ldc 7, 2) := by decide +kernel
theorem dL_cell1_14 : decode cL_cell1 14 = .ok (.iload_n 1, 1) := by decide +kernel
theorem dL_cell1_15 : decode cL_cell1 15 = .ok (.iconst 1, 1) := by decide +kernel
theorem dL_cell1_16 : decode cL_cell1 16 = .ok (.iadd, 1) := by decide +kernel
theorem dL_cell1_17 : decode cL_cell1 17 = .ok (.imul, 1) := by decide +kernel
theorem dL_cell1_18 : decode cL_cell1 18 = .ok (.ireturn, 1) := by decide +kernel
theorem dL_low_0 : decode cL_low 0 = .ok (.iload_n 0, 1) := by decide +kernel
theorem dL_low_1 : decode cL_low 1 = .ok (.ldc 8, 2) := by decide +kernel
theorem dL_low_3 : decode cL_low 3 = .ok (.iand, 1) := by decide +kernel
theorem dL_low_4 : decode cL_low 4 = .ok (.iload_n 1, 1) := by decide +kernel
theorem dL_low_5 : decode cL_low 5 = .ok (.irem, 1) := by decide +kernel
theorem dL_low_6 : decode cL_low 6 = .ok (.ireturn, 1) := by decide +kernel
theorem dL_cell_0 : decode cL_cell 0 = .ok (.iload_n 3, 1) := by decide +kernel
theorem dL_cell_1 : decode cL_cell 1 = .ok (.bipush 11, 2) := by decide +kernel
theorem dL_cell_3 : decode cL_cell 3 = .ok (.if_icmp .le 15, 3) := by decide +kernel
theorem dL_cell_6 : decode cL_cell 6 = .ok (.aload_n 0, 1) := by decide +kernel
theorem dL_cell_7 : decode cL_cell 7 = .ok (.bipush 48, 2) := by decide +kernel
theorem dL_cell_9 : decode cL_cell 9 = .ok (.iload_n 3, 1) := by decide +kernel
theorem dL_cell_10 : decode cL_cell 10 = .ok (.iadd, 1) := by decide +kernel
theorem dL_cell_11 : decode cL_cell 11 = .ok (.bipush 12, 2) := by decide +kernel
theorem dL_cell_13 : decode cL_cell 13 = .ok (.isub, 1) := by decide +kernel
theorem dL_cell_14 : decode cL_cell 14 = .ok (.iaload, 1) := by decide +kernel
theorem dL_cell_15 : decode cL_cell 15 = .ok (.goto 30, 3) := by decide +kernel
theorem dL_cell_18 : decode cL_cell 18 = .ok (.iload_n 2, 1) := by decide +kernel
theorem dL_cell_19 : decode cL_cell 19 = .ok (.iconst 4, 1) := by decide +kernel
theorem dL_cell_20 : decode cL_cell 20 = .ok (.if_icmp .ge 14, 3) := by decide +kernel
theorem dL_cell_23 : decode cL_cell 23 = .ok (.aload_n 0, 1) := by decide +kernel
theorem dL_cell_24 : decode cL_cell 24 = .ok (.bipush 12, 2) := by decide +kernel
theorem dL_cell_26 : decode cL_cell 26 = .ok (.iload_n 2, 1) := by decide +kernel
theorem dL_cell_27 : decode cL_cell 27 = .ok (.imul, 1) := by decide +kernel
theorem dL_cell_28 : decode cL_cell 28 = .ok (.iload_n 3, 1) := by decide +kernel
theorem dL_cell_29 : decode cL_cell 29 = .ok (.iadd, 1) := by decide +kernel
theorem dL_cell_30 : decode cL_cell 30 = .ok (.iaload, 1) := by decide +kernel
theorem dL_cell_31 : decode cL_cell 31 = .ok (.goto 14, 3) := by decide +kernel
theorem dL_cell_34 : decode cL_cell 34 = .ok (.aload_n 1, 1) := by decide +kernel
theorem dL_cell_35 : decode cL_cell 35 = .ok (.bipush 12, 2) := by decide +kernel
theorem dL_cell_37 : decode cL_cell 37 = .ok (.iload_n 2, 1) := by decide +kernel
theorem dL_cell_38 : decode cL_cell 38 = .ok (.imul, 1) := by decide +kernel
theorem dL_cell_39 : decode cL_cell 39 = .ok (.bipush 48, 2) := by decide +kernel
theorem dL_cell_41 : decode cL_cell 41 = .ok (.isub, 1) := by decide +kernel
theorem dL_cell_42 : decode cL_cell 42 = .ok (.iload_n 3, 1) := by decide +kernel
theorem dL_cell_43 : decode cL_cell 43 = .ok (.iadd, 1) := by decide +kernel
theorem dL_cell_44 : decode cL_cell 44 = .ok (.iaload, 1) := by decide +kernel
theorem dL_cell_45 : decode cL_cell 45 = .ok (.ireturn, 1) := by decide +kernel
theorem dL_put_0 : decode cL_put 0 = .ok (.iload_n 3, 1) := by decide +kernel
theorem dL_put_1 : decode cL_put 1 = .ok (.bipush 11, 2) := by decide +kernel
theorem dL_put_3 : decode cL_put 3 = .ok (.if_icmp .le 11, 3) := by decide +kernel
theorem dL_put_6 : decode cL_put 6 = .ok (.aload_n 0, 1) := by decide +kernel
theorem dL_put_7 : decode cL_put 7 = .ok (.bipush 36, 2) := by decide +kernel
theorem dL_put_9 : decode cL_put 9 = .ok (.iload_n 3, 1) := by decide +kernel
theorem dL_put_10 : decode cL_put 10 = .ok (.iadd, 1) := by decide +kernel
theorem dL_put_11 : decode cL_put 11 = .ok (.iload 4, 2) := by decide +kernel
theorem dL_put_13 : decode cL_put 13 = .ok (.iastore, 1) := by decide +kernel
theorem dL_put_14 : decode cL_put 14 = .ok (.iload_n 3, 1) := by decide +kernel
theorem dL_put_15 : decode cL_put 15 = .ok (.bipush 12, 2) := by decide +kernel
theorem dL_put_17 : decode cL_put 17 = .ok (.if_icmp .ge 18, 3) := by decide +kernel
theorem dL_put_20 : decode cL_put 20 = .ok (.iload_n 2, 1) := by decide +kernel
theorem dL_put_21 : decode cL_put 21 = .ok (.iconst 4, 1) := by decide +kernel
theorem dL_put_22 : decode cL_put 22 = .ok (.if_icmp .ge 13, 3) := by decide +kernel
theorem dL_put_25 : decode cL_put 25 = .ok (.aload_n 0, 1) := by decide +kernel
theorem dL_put_26 : decode cL_put 26 = .ok (.bipush 12, 2) := by decide +kernel
theorem dL_put_28 : decode cL_put 28 = .ok (.iload_n 2, 1) := by decide +kernel
theorem dL_put_29 : decode cL_put 29 = .ok (.imul, 1) := by decide +kernel
theorem dL_put_30 : decode cL_put 30 = .ok (.iload_n 3, 1) := by decide +kernel
theorem dL_put_31 : decode cL_put 31 = .ok (.iadd, 1) := by decide +kernel
theorem dL_put_32 : decode cL_put 32 = .ok (.iload 4, 2) := by decide +kernel
theorem dL_put_34 : decode cL_put 34 = .ok (.iastore, 1) := by decide +kernel
theorem dL_put_35 : decode cL_put 35 = .ok (.iload_n 3, 1) := by decide +kernel
theorem dL_put_36 : decode cL_put 36 = .ok (.bipush 12, 2) := by decide +kernel
theorem dL_put_38 : decode cL_put 38 = .ok (.if_icmp .ge 21, 3) := by decide +kernel
theorem dL_put_41 : decode cL_put 41 = .ok (.iload_n 2, 1) := by decide +kernel
theorem dL_put_42 : decode cL_put 42 = .ok (.iconst 3, 1) := by decide +kernel
theorem dL_put_43 : decode cL_put 43 = .ok (.if_icmp .le 16, 3) := by decide +kernel
theorem dL_put_46 : decode cL_put 46 = .ok (.aload_n 1, 1) := by decide +kernel
theorem dL_put_47 : decode cL_put 47 = .ok (.bipush 12, 2) := by decide +kernel
theorem dL_put_49 : decode cL_put 49 = .ok (.iload_n 2, 1) := by decide +kernel
theorem dL_put_50 : decode cL_put 50 = .ok (.imul, 1) := by decide +kernel
theorem dL_put_51 : decode cL_put 51 = .ok (.bipush 48, 2) := by decide +kernel
theorem dL_put_53 : decode cL_put 53 = .ok (.isub, 1) := by decide +kernel
theorem dL_put_54 : decode cL_put 54 = .ok (.iload_n 3, 1) := by decide +kernel
theorem dL_put_55 : decode cL_put 55 = .ok (.iadd, 1) := by decide +kernel
theorem dL_put_56 : decode cL_put 56 = .ok (.iload 4, 2) := by decide +kernel
theorem dL_put_58 : decode cL_put 58 = .ok (.iastore, 1) := by decide +kernel
theorem dL_put_59 : decode cL_put 59 = .ok (.return_, 1) := by decide +kernel
theorem dL_at_0 : decode cL_at 0 = .ok (.aload_n 1, 1) := by decide +kernel
theorem dL_at_1 : decode cL_at 1 = .ok (.aload_n 2, 1) := by decide +kernel
theorem dL_at_2 : decode cL_at 2 = .ok (.aload_n 0, 1) := by decide +kernel
theorem dL_at_3 : decode cL_at 3 = .ok (.iload_n 3, 1) := by decide +kernel
theorem dL_at_4 : decode cL_at 4 = .ok (.bipush 16, 2) := by decide +kernel
theorem dL_at_6 : decode cL_at 6 = .ok (.idiv, 1) := by decide +kernel
theorem dL_at_7 : decode cL_at 7 = .ok (.iaload, 1) := by decide +kernel
theorem dL_at_8 : decode cL_at 8 = .ok (.iload_n 3, 1) := by decide +kernel
theorem dL_at_9 : decode cL_at 9 = .ok (.bipush 16, 2) := by decide +kernel
theorem dL_at_11 : decode cL_at 11 = .ok (.irem, 1) := by decide +kernel
theorem dL_at_12 : decode cL_at 12 = .ok (.invokestatic 9, 3) := by decide +kernel
theorem dL_at_15 : decode cL_at 15 = .ok (.ireturn, 1) := by decide +kernel
theorem dL_step_0 : decode cL_step 0 = .ok (.aload_n 0, 1) := by decide +kernel
theorem dL_step_1 : decode cL_step 1 = .ok (.bipush 14, 2) := by decide +kernel
theorem dL_step_3 : decode cL_step 3 = .ok (.iaload, 1) := by decide +kernel
theorem dL_step_4 : decode cL_step 4 = .ok (.bipush 16, 2) := by decide +kernel
theorem dL_step_6 : decode cL_step 6 = .ok (.idiv, 1) := by decide +kernel
theorem dL_step_7 : decode cL_step 7 = .ok (.istore 4, 2) := by decide +kernel
theorem dL_step_9 : decode cL_step 9 = .ok (.aload_n 0, 1) := by decide +kernel
theorem dL_step_10 : decode cL_step 10 = .ok (.aload_n 1, 1) := by decide +kernel
theorem dL_step_11 : decode cL_step 11 = .ok (.aload_n 2, 1) := by decide +kernel
theorem dL_step_12 : decode cL_step 12 = .ok (.aload_n 0, 1) := by decide +kernel
theorem dL_step_13 : decode cL_step 13 = .ok (.bipush 14, 2) := by decide +kernel
theorem dL_step_15 : decode cL_step 15 = .ok (.iaload, 1) := by decide +kernel
theorem dL_step_16 : decode cL_step 16 = .ok (.invokestatic 15, 3) := by decide +kernel
theorem dL_step_19 : decode cL_step 19 = .ok (.istore 5, 2) := by decide +kernel
theorem dL_step_21 : decode cL_step 21 = .ok (.iload 5, 2) := by decide +kernel
theorem dL_step_23 : decode cL_step 23 = .ok (.bipush 100, 2) := by decide +kernel
theorem dL_step_25 : decode cL_step 25 = .ok (.idiv, 1) := by decide +kernel
theorem dL_step_26 : decode cL_step 26 = .ok (.istore 6, 2) := by decide +kernel
theorem dL_step_28 : decode cL_step 28 = .ok (.iload 5, 2) := by decide +kernel
theorem dL_step_30 : decode cL_step 30 = .ok (.bipush 100, 2) := by decide +kernel
theorem dL_step_32 : decode cL_step 32 = .ok (.irem, 1) := by decide +kernel
theorem dL_step_33 : decode cL_step 33 = .ok (.istore 7, 2) := by decide +kernel
theorem dL_step_35 : decode cL_step 35 = .ok (.aload_n 0, 1) := by decide +kernel
theorem dL_step_36 : decode cL_step 36 = .ok (.bipush 14, 2) := by decide +kernel
theorem dL_step_38 : decode cL_step 38 = .ok (.dup2, 1) := by decide +kernel
theorem dL_step_39 : decode cL_step 39 = .ok (.iaload, 1) := by decide +kernel
theorem dL_step_40 : decode cL_step 40 = .ok (.iconst 1, 1) := by decide +kernel
theorem dL_step_41 : decode cL_step 41 = .ok (.iadd, 1) := by decide +kernel
theorem dL_step_42 : decode cL_step 42 = .ok (.iastore, 1) := by decide +kernel
theorem dL_step_43 : decode cL_step 43 = .ok (.aload_n 0, 1) := by decide +kernel
theorem dL_step_44 : decode cL_step 44 = .ok (.bipush 16, 2) := by decide +kernel
theorem dL_step_46 : decode cL_step 46 = .ok (.dup2, 1) := by decide +kernel
theorem dL_step_47 : decode cL_step 47 = .ok (.iaload, 1) := by decide +kernel
theorem dL_step_48 : decode cL_step 48 = .ok (.iconst 1, 1) := by decide +kernel
theorem dL_step_49 : decode cL_step 49 = .ok (.iadd, 1) := by decide +kernel
theorem dL_step_50 : decode cL_step 50 = .ok (.iastore, 1) := by decide +kernel
theorem dL_step_51 : decode cL_step 51 = .ok (.iload 6, 2) := by decide +kernel
theorem dL_step_53 : decode cL_step 53 = .ok (.ifCond .ne 8, 3) := by decide +kernel
theorem dL_step_56 : decode cL_step 56 = .ok (.aload_n 0, 1) := by decide +kernel
theorem dL_step_57 : decode cL_step 57 = .ok (.bipush 15, 2) := by decide +kernel
theorem dL_step_59 : decode cL_step 59 = .ok (.iconst 1, 1) := by decide +kernel
theorem dL_step_60 : decode cL_step 60 = .ok (.iastore, 1) := by decide +kernel
theorem dL_step_61 : decode cL_step 61 = .ok (.iload 6, 2) := by decide +kernel
theorem dL_step_63 : decode cL_step 63 = .ok (.iconst 1, 1) := by decide +kernel
theorem dL_step_64 : decode cL_step 64 = .ok (.if_icmp .le 17, 3) := by decide +kernel
theorem dL_step_67 : decode cL_step 67 = .ok (.iload 6, 2) := by decide +kernel
theorem dL_step_69 : decode cL_step 69 = .ok (.bipush 6, 2) := by decide +kernel
theorem dL_step_71 : decode cL_step 71 = .ok (.if_icmp .ge 10, 3) := by decide +kernel
theorem dL_step_74 : decode cL_step 74 = .ok (.iload 7, 2) := by decide +kernel
theorem dL_step_76 : decode cL_step 76 = .ok (.bipush 63, 2) := by decide +kernel
theorem dL_step_78 : decode cL_step 78 = .ok (.if_icmp .gt 41, 3) := by decide +kernel
theorem dL_step_81 : decode cL_step 81 = .ok (.iload 6, 2) := by decide +kernel
theorem dL_step_83 : decode cL_step 83 = .ok (.bipush 6, 2) := by decide +kernel
theorem dL_step_85 : decode cL_step 85 = .ok (.if_icmp .ne 20, 3) := by decide +kernel
theorem dL_step_88 : decode cL_step 88 = .ok (.iload 7, 2) := by decide +kernel
theorem dL_step_90 : decode cL_step 90 = .ok (.bipush 39, 2) := by decide +kernel
theorem dL_step_92 : decode cL_step 92 = .ok (.if_icmp .gt 27, 3) := by decide +kernel
theorem dL_step_95 : decode cL_step 95 = .ok (.iload 7, 2) := by decide +kernel
theorem dL_step_97 : decode cL_step 97 = .ok (.bipush 10, 2) := by decide +kernel
theorem dL_step_99 : decode cL_step 99 = .ok (.irem, 1) := by decide +kernel
theorem dL_step_100 : decode cL_step 100 = .ok (.bipush 7, 2) := by decide +kernel
theorem dL_step_102 : decode cL_step 102 = .ok (.if_icmp .gt 17, 3) := by decide +kernel
theorem dL_step_105 : decode cL_step 105 = .ok (.iload 6, 2) := by decide +kernel
theorem dL_step_107 : decode cL_step 107 = .ok (.bipush 7, 2) := by decide +kernel
theorem dL_step_109 : decode cL_step 109 = .ok (.if_icmp .ne 18, 3) := by decide +kernel
theorem dL_step_112 : decode cL_step 112 = .ok (.iload 7, 2) := by decide +kernel
theorem dL_step_114 : decode cL_step 114 = .ok (.bipush 79, 2) := by decide +kernel
theorem dL_step_116 : decode cL_step 116 = .ok (.if_icmp .le 11, 3) := by decide +kernel
theorem dL_step_119 : decode cL_step 119 = .ok (.aload_n 0, 1) := by decide +kernel
theorem dL_step_120 : decode cL_step 120 = .ok (.bipush 15, 2) := by decide +kernel
theorem dL_step_122 : decode cL_step 122 = .ok (.iconst 3, 1) := by decide +kernel
theorem dL_step_123 : decode cL_step 123 = .ok (.iastore, 1) := by decide +kernel
theorem dL_step_124 : decode cL_step 124 = .ok (.goto 44, 3) := by decide +kernel
theorem dL_step_127 : decode cL_step 127 = .ok (.iload 6, 2) := by decide +kernel
theorem dL_step_129 : decode cL_step 129 = .ok (.bipush 7, 2) := by decide +kernel
theorem dL_step_131 : decode cL_step 131 = .ok (.if_icmp .ne 19, 3) := by decide +kernel
theorem dL_step_134 : decode cL_step 134 = .ok (.aload_n 3, 1) := by decide +kernel
theorem dL_step_135 : decode cL_step 135 = .ok (.iconst 0, 1) := by decide +kernel
theorem dL_step_136 : decode cL_step 136 = .ok (.iaload, 1) := by decide +kernel
theorem dL_step_137 : decode cL_step 137 = .ok (.bipush 8, 2) := by decide +kernel
theorem dL_step_139 : decode cL_step 139 = .ok (.if_icmp .ne 11, 3) := by decide +kernel
theorem dL_step_142 : decode cL_step 142 = .ok (.aload_n 0, 1) := by decide +kernel
theorem dL_step_143 : decode cL_step 143 = .ok (.bipush 15, 2) := by decide +kernel
theorem dL_step_145 : decode cL_step 145 = .ok (.iconst 4, 1) := by decide +kernel
theorem dL_step_146 : decode cL_step 146 = .ok (.iastore, 1) := by decide +kernel
theorem dL_step_147 : decode cL_step 147 = .ok (.goto 21, 3) := by decide +kernel
theorem dL_step_150 : decode cL_step 150 = .ok (.iload 6, 2) := by decide +kernel
theorem dL_step_152 : decode cL_step 152 = .ok (.bipush 8, 2) := by decide +kernel
theorem dL_step_154 : decode cL_step 154 = .ok (.if_icmp .ne 14, 3) := by decide +kernel
theorem dL_step_157 : decode cL_step 157 = .ok (.aload_n 3, 1) := by decide +kernel
theorem dL_step_158 : decode cL_step 158 = .ok (.iconst 0, 1) := by decide +kernel
theorem dL_step_159 : decode cL_step 159 = .ok (.iaload, 1) := by decide +kernel
theorem dL_step_160 : decode cL_step 160 = .ok (.ifCond .ne 8, 3) := by decide +kernel
theorem dL_step_163 : decode cL_step 163 = .ok (.aload_n 0, 1) := by decide +kernel
theorem dL_step_164 : decode cL_step 164 = .ok (.bipush 15, 2) := by decide +kernel
theorem dL_step_166 : decode cL_step 166 = .ok (.iconst 5, 1) := by decide +kernel
theorem dL_step_167 : decode cL_step 167 = .ok (.iastore, 1) := by decide +kernel
theorem dL_step_168 : decode cL_step 168 = .ok (.aload_n 0, 1) := by decide +kernel
theorem dL_step_169 : decode cL_step 169 = .ok (.bipush 15, 2) := by decide +kernel
theorem dL_step_171 : decode cL_step 171 = .ok (.iaload, 1) := by decide +kernel
theorem dL_step_172 : decode cL_step 172 = .ok (.ifCond .le 4, 3) := by decide +kernel
theorem dL_step_175 : decode cL_step 175 = .ok (.return_, 1) := by decide +kernel
theorem dL_step_176 : decode cL_step 176 = .ok (.iload 6, 2) := by decide +kernel
theorem dL_step_178 : decode cL_step 178 = .ok (.iconst 1, 1) := by decide +kernel
theorem dL_step_179 : decode cL_step 179 = .ok (.if_icmp .ne 9, 3) := by decide +kernel
theorem dL_step_182 : decode cL_step 182 = .ok (.aload_n 0, 1) := by decide +kernel
theorem dL_step_183 : decode cL_step 183 = .ok (.bipush 13, 2) := by decide +kernel
theorem dL_step_185 : decode cL_step 185 = .ok (.iload 7, 2) := by decide +kernel
theorem dL_step_187 : decode cL_step 187 = .ok (.iastore, 1) := by decide +kernel
theorem dL_step_188 : decode cL_step 188 = .ok (.iload 6, 2) := by decide +kernel
theorem dL_step_190 : decode cL_step 190 = .ok (.iconst 2, 1) := by decide +kernel
theorem dL_step_191 : decode cL_step 191 = .ok (.if_icmp .ne 24, 3) := by decide +kernel
theorem dL_step_194 : decode cL_step 194 = .ok (.aload_n 0, 1) := by decide +kernel
theorem dL_step_195 : decode cL_step 195 = .ok (.bipush 13, 2) := by decide +kernel
theorem dL_step_197 : decode cL_step 197 = .ok (.aload_n 0, 1) := by decide +kernel
theorem dL_step_198 : decode cL_step 198 = .ok (.bipush 13, 2) := by decide +kernel
theorem dL_step_200 : decode cL_step 200 = .ok (.iaload, 1) := by decide +kernel
theorem dL_step_201 : decode cL_step 201 = .ok (.aload_n 0, 1) := by decide +kernel
theorem dL_step_202 : decode cL_step 202 = .ok (.aload_n 1, 1) := by decide +kernel
theorem dL_step_203 : decode cL_step 203 = .ok (.aload_n 2, 1) := by decide +kernel
theorem dL_step_204 : decode cL_step 204 = .ok (.iload 7, 2) := by decide +kernel
theorem dL_step_206 : decode cL_step 206 = .ok (.invokestatic 15, 3) := by decide +kernel
theorem dL_step_209 : decode cL_step 209 = .ok (.iadd, 1) := by decide +kernel
theorem dL_step_210 : decode cL_step 210 = .ok (.sipush 1000, 3) := by decide +kernel
theorem dL_step_213 : decode cL_step 213 = .ok (.irem, 1) := by decide +kernel
theorem dL_step_214 : decode cL_step 214 = .ok (.iastore, 1) := by decide +kernel
theorem dL_step_215 : decode cL_step 215 = .ok (.iload 6, 2) := by decide +kernel
theorem dL_step_217 : decode cL_step 217 = .ok (.iconst 3, 1) := by decide +kernel
theorem dL_step_218 : decode cL_step 218 = .ok (.if_icmp .ne 109, 3) := by decide +kernel
theorem dL_step_221 : decode cL_step 221 = .ok (.aload_n 0, 1) := by decide +kernel
theorem dL_step_222 : decode cL_step 222 = .ok (.iload 7, 2) := by decide +kernel
theorem dL_step_224 : decode cL_step 224 = .ok (.bipush 16, 2) := by decide +kernel
theorem dL_step_226 : decode cL_step 226 = .ok (.idiv, 1) := by decide +kernel
theorem dL_step_227 : decode cL_step 227 = .ok (.iaload, 1) := by decide +kernel
theorem dL_step_228 : decode cL_step 228 = .ok (.istore 8, 2) := by decide +kernel
theorem dL_step_230 : decode cL_step 230 = .ok (.aload_n 0, 1) := by decide +kernel
theorem dL_step_231 : decode cL_step 231 = .ok (.iconst 4, 1) := by decide +kernel
theorem dL_step_232 : decode cL_step 232 = .ok (.iload 8, 2) := by decide +kernel
theorem dL_step_234 : decode cL_step 234 = .ok (.iadd, 1) := by decide +kernel
theorem dL_step_235 : decode cL_step 235 = .ok (.iaload, 1) := by decide +kernel
theorem dL_step_236 : decode cL_step 236 = .ok (.ifCond .ne 7, 3) := by decide +kernel
theorem dL_step_239 : decode cL_step 239 = .ok (.iconst 1, 1) := by decide +kernel
theorem dL_step_240 : decode cL_step 240 = .ok (.goto 4, 3) := by decide +kernel
theorem dL_step_243 : decode cL_step 243 = .ok (.iconst 0, 1) := by decide +kernel
theorem dL_step_244 : decode cL_step 244 = .ok (.istore 9, 2) := by decide +kernel
theorem dL_step_246 : decode cL_step 246 = .ok (.iload 9, 2) := by decide +kernel
theorem dL_step_248 : decode cL_step 248 = .ok (.ifCond .eq 19, 3) := by decide +kernel
theorem dL_step_251 : decode cL_step 251 = .ok (.aload_n 1, 1) := by decide +kernel
theorem dL_step_252 : decode cL_step 252 = .ok (.aload_n 2, 1) := by decide +kernel
theorem dL_step_253 : decode cL_step 253 = .ok (.iload 8, 2) := by decide +kernel
theorem dL_step_255 : decode cL_step 255 = .ok (.iload 7, 2) := by decide +kernel
theorem dL_step_257 : decode cL_step 257 = .ok (.bipush 16, 2) := by decide +kernel
theorem dL_step_259 : decode cL_step 259 = .ok (.irem, 1) := by decide +kernel
theorem dL_step_260 : decode cL_step 260 = .ok (.aload_n 0, 1) := by decide +kernel
theorem dL_step_261 : decode cL_step 261 = .ok (.bipush 13, 2) := by decide +kernel
theorem dL_step_263 : decode cL_step 263 = .ok (.iaload, 1) := by decide +kernel
theorem dL_step_264 : decode cL_step 264 = .ok (.invokestatic 19, 3) := by decide +kernel
theorem dL_step_267 : decode cL_step 267 = .ok (.aload_n 0, 1) := by decide +kernel
theorem dL_step_268 : decode cL_step 268 = .ok (.iload 9, 2) := by decide +kernel
theorem dL_step_270 : decode cL_step 270 = .ok (.ifCond .eq 8, 3) := by decide +kernel
theorem dL_step_273 : decode cL_step 273 = .ok (.bipush 18, 2) := by decide +kernel
theorem dL_step_275 : decode cL_step 275 = .ok (.goto 5, 3) := by decide +kernel
theorem dL_step_278 : decode cL_step 278 = .ok (.bipush 19, 2) := by decide +kernel
theorem dL_step_280 : decode cL_step 280 = .ok (.dup2, 1) := by decide +kernel
theorem dL_step_281 : decode cL_step 281 = .ok (.iaload, 1) := by decide +kernel
theorem dL_step_282 : decode cL_step 282 = .ok (.iconst 1, 1) := by decide +kernel
theorem dL_step_283 : decode cL_step 283 = .ok (.iadd, 1) := by decide +kernel
theorem dL_step_284 : decode cL_step 284 = .ok (.iastore, 1) := by decide +kernel
theorem dL_step_285 : decode cL_step 285 = .ok (.aload_n 0, 1) := by decide +kernel
theorem dL_step_286 : decode cL_step 286 = .ok (.iload 9, 2) := by decide +kernel
theorem dL_step_288 : decode cL_step 288 = .ok (.ifCond .eq 8, 3) := by decide +kernel
theorem dL_step_291 : decode cL_step 291 = .ok (.bipush 20, 2) := by decide +kernel
theorem dL_step_293 : decode cL_step 293 = .ok (.goto 5, 3) := by decide +kernel
theorem dL_step_296 : decode cL_step 296 = .ok (.bipush 28, 2) := by decide +kernel
theorem dL_step_298 : decode cL_step 298 = .ok (.iload 8, 2) := by decide +kernel
theorem dL_step_300 : decode cL_step 300 = .ok (.iadd, 1) := by decide +kernel
theorem dL_step_301 : decode cL_step 301 = .ok (.dup2, 1) := by decide +kernel
theorem dL_step_302 : decode cL_step 302 = .ok (.iaload, 1) := by decide +kernel
theorem dL_step_303 : decode cL_step 303 = .ok (.iconst 1, 1) := by decide +kernel
theorem dL_step_304 : decode cL_step 304 = .ok (.iadd, 1) := by decide +kernel
theorem dL_step_305 : decode cL_step 305 = .ok (.iastore, 1) := by decide +kernel
theorem dL_step_306 : decode cL_step 306 = .ok (.aload_n 0, 1) := by decide +kernel
theorem dL_step_307 : decode cL_step 307 = .ok (.bipush 15, 2) := by decide +kernel
theorem dL_step_309 : decode cL_step 309 = .ok (.iload 9, 2) := by decide +kernel
theorem dL_step_311 : decode cL_step 311 = .ok (.ifCond .ne 10, 3) := by decide +kernel
theorem dL_step_314 : decode cL_step 314 = .ok (.aload_n 0, 1) := by decide +kernel
theorem dL_step_315 : decode cL_step 315 = .ok (.bipush 12, 2) := by decide +kernel
theorem dL_step_317 : decode cL_step 317 = .ok (.iaload, 1) := by decide +kernel
theorem dL_step_318 : decode cL_step 318 = .ok (.ifCond .ne 7, 3) := by decide +kernel
theorem dL_step_321 : decode cL_step 321 = .ok (.iconst 0, 1) := by decide +kernel
theorem dL_step_322 : decode cL_step 322 = .ok (.goto 4, 3) := by decide +kernel
theorem dL_step_325 : decode cL_step 325 = .ok (.iconst 2, 1) := by decide +kernel
theorem dL_step_326 : decode cL_step 326 = .ok (.iastore, 1) := by decide +kernel
theorem dL_step_327 : decode cL_step 327 = .ok (.iload 6, 2) := by decide +kernel
theorem dL_step_329 : decode cL_step 329 = .ok (.iconst 4, 1) := by decide +kernel
theorem dL_step_330 : decode cL_step 330 = .ok (.if_icmp .eq 16, 3) := by decide +kernel
theorem dL_step_333 : decode cL_step 333 = .ok (.iload 6, 2) := by decide +kernel
theorem dL_step_335 : decode cL_step 335 = .ok (.iconst 5, 1) := by decide +kernel
theorem dL_step_336 : decode cL_step 336 = .ok (.if_icmp .ne 16, 3) := by decide +kernel
theorem dL_step_339 : decode cL_step 339 = .ok (.aload_n 0, 1) := by decide +kernel
theorem dL_step_340 : decode cL_step 340 = .ok (.bipush 13, 2) := by decide +kernel
theorem dL_step_342 : decode cL_step 342 = .ok (.iaload, 1) := by decide +kernel
theorem dL_step_343 : decode cL_step 343 = .ok (.ifCond .ne 9, 3) := by decide +kernel
theorem dL_step_346 : decode cL_step 346 = .ok (.aload_n 0, 1) := by decide +kernel
theorem dL_step_347 : decode cL_step 347 = .ok (.bipush 14, 2) := by decide +kernel
theorem dL_step_349 : decode cL_step 349 = .ok (.iload 7, 2) := by decide +kernel
theorem dL_step_351 : decode cL_step 351 = .ok (.iastore, 1) := by decide +kernel
theorem dL_step_352 : decode cL_step 352 = .ok (.iload 6, 2) := by decide +kernel
theorem dL_step_354 : decode cL_step 354 = .ok (.bipush 6, 2) := by decide +kernel
theorem dL_step_356 : decode cL_step 356 = .ok (.if_icmp .ne 15, 3) := by decide +kernel
theorem dL_step_359 : decode cL_step 359 = .ok (.aload_n 0, 1) := by decide +kernel
theorem dL_step_360 : decode cL_step 360 = .ok (.iload 7, 2) := by decide +kernel
theorem dL_step_362 : decode cL_step 362 = .ok (.bipush 10, 2) := by decide +kernel
theorem dL_step_364 : decode cL_step 364 = .ok (.idiv, 1) := by decide +kernel
theorem dL_step_365 : decode cL_step 365 = .ok (.iload 7, 2) := by decide +kernel
theorem dL_step_367 : decode cL_step 367 = .ok (.bipush 10, 2) := by decide +kernel
theorem dL_step_369 : decode cL_step 369 = .ok (.irem, 1) := by decide +kernel
theorem dL_step_370 : decode cL_step 370 = .ok (.iastore, 1) := by decide +kernel
theorem dL_step_371 : decode cL_step 371 = .ok (.iload 6, 2) := by decide +kernel
theorem dL_step_373 : decode cL_step 373 = .ok (.bipush 7, 2) := by decide +kernel
theorem dL_step_375 : decode cL_step 375 = .ok (.if_icmp .ne 79, 3) := by decide +kernel
theorem dL_step_378 : decode cL_step 378 = .ok (.aload_n 3, 1) := by decide +kernel
theorem dL_step_379 : decode cL_step 379 = .ok (.iconst 1, 1) := by decide +kernel
theorem dL_step_380 : decode cL_step 380 = .ok (.iconst 3, 1) := by decide +kernel
theorem dL_step_381 : decode cL_step 381 = .ok (.aload_n 3, 1) := by decide +kernel
theorem dL_step_382 : decode cL_step 382 = .ok (.iconst 0, 1) := by decide +kernel
theorem dL_step_383 : decode cL_step 383 = .ok (.iaload, 1) := by decide +kernel
theorem dL_step_384 : decode cL_step 384 = .ok (.imul, 1) := by decide +kernel
theorem dL_step_385 : decode cL_step 385 = .ok (.iadd, 1) := by decide +kernel
theorem dL_step_386 : decode cL_step 386 = .ok (.iload 4, 2) := by decide +kernel
theorem dL_step_388 : decode cL_step 388 = .ok (.iastore, 1) := by decide +kernel
theorem dL_step_389 : decode cL_step 389 = .ok (.aload_n 3, 1) := by decide +kernel
theorem dL_step_390 : decode cL_step 390 = .ok (.iconst 2, 1) := by decide +kernel
theorem dL_step_391 : decode cL_step 391 = .ok (.iconst 3, 1) := by decide +kernel
theorem dL_step_392 : decode cL_step 392 = .ok (.aload_n 3, 1) := by decide +kernel
theorem dL_step_393 : decode cL_step 393 = .ok (.iconst 0, 1) := by decide +kernel
theorem dL_step_394 : decode cL_step 394 = .ok (.iaload, 1) := by decide +kernel
theorem dL_step_395 : decode cL_step 395 = .ok (.imul, 1) := by decide +kernel
theorem dL_step_396 : decode cL_step 396 = .ok (.iadd, 1) := by decide +kernel
theorem dL_step_397 : decode cL_step 397 = .ok (.aload_n 0, 1) := by decide +kernel
theorem dL_step_398 : decode cL_step 398 = .ok (.iload 4, 2) := by decide +kernel
theorem dL_step_400 : decode cL_step 400 = .ok (.iaload, 1) := by decide +kernel
theorem dL_step_401 : decode cL_step 401 = .ok (.iastore, 1) := by decide +kernel
theorem dL_step_402 : decode cL_step 402 = .ok (.aload_n 3, 1) := by decide +kernel
theorem dL_step_403 : decode cL_step 403 = .ok (.iconst 3, 1) := by decide +kernel
theorem dL_step_404 : decode cL_step 404 = .ok (.iconst 3, 1) := by decide +kernel
theorem dL_step_405 : decode cL_step 405 = .ok (.aload_n 3, 1) := by decide +kernel
theorem dL_step_406 : decode cL_step 406 = .ok (.iconst 0, 1) := by decide +kernel
theorem dL_step_407 : decode cL_step 407 = .ok (.iaload, 1) := by decide +kernel
theorem dL_step_408 : decode cL_step 408 = .ok (.imul, 1) := by decide +kernel
theorem dL_step_409 : decode cL_step 409 = .ok (.iadd, 1) := by decide +kernel
theorem dL_step_410 : decode cL_step 410 = .ok (.aload_n 0, 1) := by decide +kernel
theorem dL_step_411 : decode cL_step 411 = .ok (.bipush 14, 2) := by decide +kernel
theorem dL_step_413 : decode cL_step 413 = .ok (.iaload, 1) := by decide +kernel
theorem dL_step_414 : decode cL_step 414 = .ok (.iastore, 1) := by decide +kernel
theorem dL_step_415 : decode cL_step 415 = .ok (.aload_n 3, 1) := by decide +kernel
theorem dL_step_416 : decode cL_step 416 = .ok (.iconst 0, 1) := by decide +kernel
theorem dL_step_417 : decode cL_step 417 = .ok (.dup2, 1) := by decide +kernel
theorem dL_step_418 : decode cL_step 418 = .ok (.iaload, 1) := by decide +kernel
theorem dL_step_419 : decode cL_step 419 = .ok (.iconst 1, 1) := by decide +kernel
theorem dL_step_420 : decode cL_step 420 = .ok (.iadd, 1) := by decide +kernel
theorem dL_step_421 : decode cL_step 421 = .ok (.iastore, 1) := by decide +kernel
theorem dL_step_422 : decode cL_step 422 = .ok (.aload_n 0, 1) := by decide +kernel
theorem dL_step_423 : decode cL_step 423 = .ok (.bipush 17, 2) := by decide +kernel
theorem dL_step_425 : decode cL_step 425 = .ok (.dup2, 1) := by decide +kernel
theorem dL_step_426 : decode cL_step 426 = .ok (.iaload, 1) := by decide +kernel
theorem dL_step_427 : decode cL_step 427 = .ok (.iconst 1, 1) := by decide +kernel
theorem dL_step_428 : decode cL_step 428 = .ok (.iadd, 1) := by decide +kernel
theorem dL_step_429 : decode cL_step 429 = .ok (.iastore, 1) := by decide +kernel
theorem dL_step_430 : decode cL_step 430 = .ok (.aload_n 0, 1) := by decide +kernel
theorem dL_step_431 : decode cL_step 431 = .ok (.iload 4, 2) := by decide +kernel
theorem dL_step_433 : decode cL_step 433 = .ok (.iload 7, 2) := by decide +kernel
theorem dL_step_435 : decode cL_step 435 = .ok (.bipush 10, 2) := by decide +kernel
theorem dL_step_437 : decode cL_step 437 = .ok (.idiv, 1) := by decide +kernel
theorem dL_step_438 : decode cL_step 438 = .ok (.iastore, 1) := by decide +kernel
theorem dL_step_439 : decode cL_step 439 = .ok (.aload_n 0, 1) := by decide +kernel
theorem dL_step_440 : decode cL_step 440 = .ok (.bipush 14, 2) := by decide +kernel
theorem dL_step_442 : decode cL_step 442 = .ok (.bipush 16, 2) := by decide +kernel
theorem dL_step_444 : decode cL_step 444 = .ok (.iload 4, 2) := by decide +kernel
theorem dL_step_446 : decode cL_step 446 = .ok (.imul, 1) := by decide +kernel
theorem dL_step_447 : decode cL_step 447 = .ok (.iload 7, 2) := by decide +kernel
theorem dL_step_449 : decode cL_step 449 = .ok (.bipush 10, 2) := by decide +kernel
theorem dL_step_451 : decode cL_step 451 = .ok (.irem, 1) := by decide +kernel
theorem dL_step_452 : decode cL_step 452 = .ok (.iadd, 1) := by decide +kernel
theorem dL_step_453 : decode cL_step 453 = .ok (.iastore, 1) := by decide +kernel
theorem dL_step_454 : decode cL_step 454 = .ok (.iload 6, 2) := by decide +kernel
theorem dL_step_456 : decode cL_step 456 = .ok (.bipush 8, 2) := by decide +kernel
theorem dL_step_458 : decode cL_step 458 = .ok (.if_icmp .ne 43, 3) := by decide +kernel
theorem dL_step_461 : decode cL_step 461 = .ok (.aload_n 3, 1) := by decide +kernel
theorem dL_step_462 : decode cL_step 462 = .ok (.iconst 0, 1) := by decide +kernel
theorem dL_step_463 : decode cL_step 463 = .ok (.dup2, 1) := by decide +kernel
theorem dL_step_464 : decode cL_step 464 = .ok (.iaload, 1) := by decide +kernel
theorem dL_step_465 : decode cL_step 465 = .ok (.iconst 1, 1) := by decide +kernel
theorem dL_step_466 : decode cL_step 466 = .ok (.isub, 1) := by decide +kernel
theorem dL_step_467 : decode cL_step 467 = .ok (.iastore, 1) := by decide +kernel
theorem dL_step_468 : decode cL_step 468 = .ok (.aload_n 0, 1) := by decide +kernel
theorem dL_step_469 : decode cL_step 469 = .ok (.aload_n 3, 1) := by decide +kernel
theorem dL_step_470 : decode cL_step 470 = .ok (.iconst 1, 1) := by decide +kernel
theorem dL_step_471 : decode cL_step 471 = .ok (.iconst 3, 1) := by decide +kernel
theorem dL_step_472 : decode cL_step 472 = .ok (.aload_n 3, 1) := by decide +kernel
theorem dL_step_473 : decode cL_step 473 = .ok (.iconst 0, 1) := by decide +kernel
theorem dL_step_474 : decode cL_step 474 = .ok (.iaload, 1) := by decide +kernel
theorem dL_step_475 : decode cL_step 475 = .ok (.imul, 1) := by decide +kernel
theorem dL_step_476 : decode cL_step 476 = .ok (.iadd, 1) := by decide +kernel
theorem dL_step_477 : decode cL_step 477 = .ok (.iaload, 1) := by decide +kernel
theorem dL_step_478 : decode cL_step 478 = .ok (.aload_n 3, 1) := by decide +kernel
theorem dL_step_479 : decode cL_step 479 = .ok (.iconst 2, 1) := by decide +kernel
theorem dL_step_480 : decode cL_step 480 = .ok (.iconst 3, 1) := by decide +kernel
theorem dL_step_481 : decode cL_step 481 = .ok (.aload_n 3, 1) := by decide +kernel
theorem dL_step_482 : decode cL_step 482 = .ok (.iconst 0, 1) := by decide +kernel
theorem dL_step_483 : decode cL_step 483 = .ok (.iaload, 1) := by decide +kernel
theorem dL_step_484 : decode cL_step 484 = .ok (.imul, 1) := by decide +kernel
theorem dL_step_485 : decode cL_step 485 = .ok (.iadd, 1) := by decide +kernel
theorem dL_step_486 : decode cL_step 486 = .ok (.iaload, 1) := by decide +kernel
theorem dL_step_487 : decode cL_step 487 = .ok (.iastore, 1) := by decide +kernel
theorem dL_step_488 : decode cL_step 488 = .ok (.aload_n 0, 1) := by decide +kernel
theorem dL_step_489 : decode cL_step 489 = .ok (.bipush 14, 2) := by decide +kernel
theorem dL_step_491 : decode cL_step 491 = .ok (.aload_n 3, 1) := by decide +kernel
theorem dL_step_492 : decode cL_step 492 = .ok (.iconst 3, 1) := by decide +kernel
theorem dL_step_493 : decode cL_step 493 = .ok (.iconst 3, 1) := by decide +kernel
theorem dL_step_494 : decode cL_step 494 = .ok (.aload_n 3, 1) := by decide +kernel
theorem dL_step_495 : decode cL_step 495 = .ok (.iconst 0, 1) := by decide +kernel
theorem dL_step_496 : decode cL_step 496 = .ok (.iaload, 1) := by decide +kernel
theorem dL_step_497 : decode cL_step 497 = .ok (.imul, 1) := by decide +kernel
theorem dL_step_498 : decode cL_step 498 = .ok (.iadd, 1) := by decide +kernel
theorem dL_step_499 : decode cL_step 499 = .ok (.iaload, 1) := by decide +kernel
theorem dL_step_500 : decode cL_step 500 = .ok (.iastore, 1) := by decide +kernel
theorem dL_step_501 : decode cL_step 501 = .ok (.iload 6, 2) := by decide +kernel
theorem dL_step_503 : decode cL_step 503 = .ok (.bipush 9, 2) := by decide +kernel
theorem dL_step_505 : decode cL_step 505 = .ok (.if_icmp .ne 18, 3) := by decide +kernel
theorem dL_step_508 : decode cL_step 508 = .ok (.aload_n 0, 1) := by decide +kernel
theorem dL_step_509 : decode cL_step 509 = .ok (.bipush 13, 2) := by decide +kernel
theorem dL_step_511 : decode cL_step 511 = .ok (.aload_n 0, 1) := by decide +kernel
theorem dL_step_512 : decode cL_step 512 = .ok (.bipush 13, 2) := by decide +kernel
theorem dL_step_514 : decode cL_step 514 = .ok (.iaload, 1) := by decide +kernel
theorem dL_step_515 : decode cL_step 515 = .ok (.iload 7, 2) := by decide +kernel
theorem dL_step_517 : decode cL_step 517 = .ok (.iadd, 1) := by decide +kernel
theorem dL_step_518 : decode cL_step 518 = .ok (.sipush 1000, 3) := by decide +kernel
theorem dL_step_521 : decode cL_step 521 = .ok (.irem, 1) := by decide +kernel
theorem dL_step_522 : decode cL_step 522 = .ok (.iastore, 1) := by decide +kernel
theorem dL_step_523 : decode cL_step 523 = .ok (.aload_n 0, 1) := by decide +kernel
theorem dL_step_524 : decode cL_step 524 = .ok (.bipush 15, 2) := by decide +kernel
theorem dL_step_526 : decode cL_step 526 = .ok (.iaload, 1) := by decide +kernel
theorem dL_step_527 : decode cL_step 527 = .ok (.ifCond .ne 18, 3) := by decide +kernel
theorem dL_step_530 : decode cL_step 530 = .ok (.aload_n 0, 1) := by decide +kernel
theorem dL_step_531 : decode cL_step 531 = .ok (.bipush 14, 2) := by decide +kernel
theorem dL_step_533 : decode cL_step 533 = .ok (.iaload, 1) := by decide +kernel
theorem dL_step_534 : decode cL_step 534 = .ok (.bipush 64, 2) := by decide +kernel
theorem dL_step_536 : decode cL_step 536 = .ok (.if_icmp .ne 9, 3) := by decide +kernel
theorem dL_step_539 : decode cL_step 539 = .ok (.aload_n 0, 1) := by decide +kernel
theorem dL_step_540 : decode cL_step 540 = .ok (.bipush 15, 2) := by decide +kernel
theorem dL_step_542 : decode cL_step 542 = .ok (.bipush 6, 2) := by decide +kernel
theorem dL_step_544 : decode cL_step 544 = .ok (.iastore, 1) := by decide +kernel
theorem dL_step_545 : decode cL_step 545 = .ok (.return_, 1) := by decide +kernel
theorem dL_copy_0 : decode cL_copy 0 = .ok (.iconst 0, 1) := by decide +kernel
theorem dL_copy_1 : decode cL_copy 1 = .ok (.istore_n 2, 1) := by decide +kernel
theorem dL_copy_2 : decode cL_copy 2 = .ok (.iload_n 2, 1) := by decide +kernel
theorem dL_copy_3 : decode cL_copy 3 = .ok (.aload_n 0, 1) := by decide +kernel
theorem dL_copy_4 : decode cL_copy 4 = .ok (.arraylength, 1) := by decide +kernel
theorem dL_copy_5 : decode cL_copy 5 = .ok (.if_icmp .ge 15, 3) := by decide +kernel
theorem dL_copy_8 : decode cL_copy 8 = .ok (.aload_n 1, 1) := by decide +kernel
theorem dL_copy_9 : decode cL_copy 9 = .ok (.iload_n 2, 1) := by decide +kernel
theorem dL_copy_10 : decode cL_copy 10 = .ok (.aload_n 0, 1) := by decide +kernel
theorem dL_copy_11 : decode cL_copy 11 = .ok (.iload_n 2, 1) := by decide +kernel
theorem dL_copy_12 : decode cL_copy 12 = .ok (.iaload, 1) := by decide +kernel
theorem dL_copy_13 : decode cL_copy 13 = .ok (.iastore, 1) := by decide +kernel
theorem dL_copy_14 : decode cL_copy 14 = .ok (.iinc 2 1, 3) := by decide +kernel
theorem dL_copy_17 : decode cL_copy 17 = .ok (.goto (-15), 3) := by decide +kernel
theorem dL_copy_20 : decode cL_copy 20 = .ok (.return_, 1) := by decide +kernel
theorem dL_run_0 : decode cL_run 0 = .ok (.iconst 0, 1) := by decide +kernel
theorem dL_run_1 : decode cL_run 1 = .ok (.istore 5, 2) := by decide +kernel
theorem dL_run_3 : decode cL_run 3 = .ok (.iload 5, 2) := by decide +kernel
theorem dL_run_5 : decode cL_run 5 = .ok (.iload_n 0, 1) := by decide +kernel
theorem dL_run_6 : decode cL_run 6 = .ok (.if_icmp .ge 24, 3) := by decide +kernel
theorem dL_run_9 : decode cL_run 9 = .ok (.aload_n 1, 1) := by decide +kernel
theorem dL_run_10 : decode cL_run 10 = .ok (.bipush 15, 2) := by decide +kernel
theorem dL_run_12 : decode cL_run 12 = .ok (.iaload, 1) := by decide +kernel
theorem dL_run_13 : decode cL_run 13 = .ok (.ifCond .ne 17, 3) := by decide +kernel
theorem dL_run_16 : decode cL_run 16 = .ok (.aload_n 1, 1) := by decide +kernel
theorem dL_run_17 : decode cL_run 17 = .ok (.aload_n 2, 1) := by decide +kernel
theorem dL_run_18 : decode cL_run 18 = .ok (.aload_n 3, 1) := by decide +kernel
theorem dL_run_19 : decode cL_run 19 = .ok (.aload 4, 2) := by decide +kernel
theorem dL_run_21 : decode cL_run 21 = .ok (.invokestatic 23, 3) := by decide +kernel
theorem dL_run_24 : decode cL_run 24 = .ok (.iinc 5 1, 3) := by decide +kernel
theorem dL_run_27 : decode cL_run 27 = .ok (.goto (-24), 3) := by decide +kernel
theorem dL_run_30 : decode cL_run 30 = .ok (.iload 5, 2) := by decide +kernel
theorem dL_run_32 : decode cL_run 32 = .ok (.ireturn, 1) := by decide +kernel
theorem dL_isAhead_0 : decode cL_isAhead 0 = .ok (.bipush 36, 2) := by decide +kernel
theorem dL_isAhead_2 : decode cL_isAhead 2 = .ok (.newarray .int, 2) := by decide +kernel
theorem dL_isAhead_4 : decode cL_isAhead 4 = .ok (.astore 6, 2) := by decide +kernel
theorem dL_isAhead_6 : decode cL_isAhead 6 = .ok (.bipush 52, 2) := by decide +kernel
theorem dL_isAhead_8 : decode cL_isAhead 8 = .ok (.newarray .int, 2) := by decide +kernel
theorem dL_isAhead_10 : decode cL_isAhead 10 = .ok (.astore 7, 2) := by decide +kernel
theorem dL_isAhead_12 : decode cL_isAhead 12 = .ok (.bipush 48, 2) := by decide +kernel
theorem dL_isAhead_14 : decode cL_isAhead 14 = .ok (.newarray .int, 2) := by decide +kernel
theorem dL_isAhead_16 : decode cL_isAhead 16 = .ok (.astore 8, 2) := by decide +kernel
theorem dL_isAhead_18 : decode cL_isAhead 18 = .ok (.bipush 28, 2) := by decide +kernel
theorem dL_isAhead_20 : decode cL_isAhead 20 = .ok (.newarray .int, 2) := by decide +kernel
theorem dL_isAhead_22 : decode cL_isAhead 22 = .ok (.astore 9, 2) := by decide +kernel
theorem dL_isAhead_24 : decode cL_isAhead 24 = .ok (.aload_n 2, 1) := by decide +kernel
theorem dL_isAhead_25 : decode cL_isAhead 25 = .ok (.aload 6, 2) := by decide +kernel
theorem dL_isAhead_27 : decode cL_isAhead 27 = .ok (.invokestatic 27, 3) := by decide +kernel
theorem dL_isAhead_30 : decode cL_isAhead 30 = .ok (.aload_n 3, 1) := by decide +kernel
theorem dL_isAhead_31 : decode cL_isAhead 31 = .ok (.aload 7, 2) := by decide +kernel
theorem dL_isAhead_33 : decode cL_isAhead 33 = .ok (.invokestatic 27, 3) := by decide +kernel
theorem dL_isAhead_36 : decode cL_isAhead 36 = .ok (.aload 4, 2) := by decide +kernel
theorem dL_isAhead_38 : decode cL_isAhead 38 = .ok (.aload 8, 2) := by decide +kernel
theorem dL_isAhead_40 : decode cL_isAhead 40 = .ok (.invokestatic 27, 3) := by decide +kernel
theorem dL_isAhead_43 : decode cL_isAhead 43 = .ok (.aload 5, 2) := by decide +kernel
theorem dL_isAhead_45 : decode cL_isAhead 45 = .ok (.aload 9, 2) := by decide +kernel
theorem dL_isAhead_47 : decode cL_isAhead 47 = .ok (.invokestatic 27, 3) := by decide +kernel
theorem dL_isAhead_50 : decode cL_isAhead 50 = .ok (.aload_n 2, 1) := by decide +kernel
theorem dL_isAhead_51 : decode cL_isAhead 51 = .ok (.bipush 15, 2) := by decide +kernel
theorem dL_isAhead_53 : decode cL_isAhead 53 = .ok (.iaload, 1) := by decide +kernel
theorem dL_isAhead_54 : decode cL_isAhead 54 = .ok (.ifCond .le 49, 3) := by decide +kernel
theorem dL_isAhead_57 : decode cL_isAhead 57 = .ok (.aload_n 0, 1) := by decide +kernel
theorem dL_isAhead_58 : decode cL_isAhead 58 = .ok (.iconst 0, 1) := by decide +kernel
theorem dL_isAhead_59 : decode cL_isAhead 59 = .ok (.invokevirtual 31, 3) := by decide +kernel
theorem dL_isAhead_62 : decode cL_isAhead 62 = .ok (.bipush (-5), 2) := by decide +kernel
theorem dL_isAhead_64 : decode cL_isAhead 64 = .ok (.if_icmp .ne 37, 3) := by decide +kernel
theorem dL_isAhead_67 : decode cL_isAhead 67 = .ok (.aload_n 0, 1) := by decide +kernel
theorem dL_isAhead_68 : decode cL_isAhead 68 = .ok (.iconst 3, 1) := by decide +kernel
theorem dL_isAhead_69 : decode cL_isAhead 69 = .ok (.invokevirtual 31, 3) := by decide +kernel
theorem dL_isAhead_72 : decode cL_isAhead 72 = .ok (.bipush (-2), 2) := by decide +kernel
theorem dL_isAhead_74 : decode cL_isAhead 74 = .ok (.if_icmp .ne 27, 3) := by decide +kernel
theorem dL_isAhead_77 : decode cL_isAhead 77 = .ok (.aload_n 0, 1) := by decide +kernel
theorem dL_isAhead_78 : decode cL_isAhead 78 = .ok (.iload_n 1, 1) := by decide +kernel
theorem dL_isAhead_79 : decode cL_isAhead 79 = .ok (.iconst 0, 1) := by decide +kernel
theorem dL_isAhead_80 : decode cL_isAhead 80 = .ok (.invokevirtual 37, 3) := by decide +kernel
theorem dL_isAhead_83 : decode cL_isAhead 83 = .ok (.bipush (-4), 2) := by decide +kernel
theorem dL_isAhead_85 : decode cL_isAhead 85 = .ok (.if_icmp .ne 16, 3) := by decide +kernel
theorem dL_isAhead_88 : decode cL_isAhead 88 = .ok (.aload_n 0, 1) := by decide +kernel
theorem dL_isAhead_89 : decode cL_isAhead 89 = .ok (.invokevirtual 41, 3) := by decide +kernel
theorem dL_isAhead_92 : decode cL_isAhead 92 = .ok (.bipush (-5), 2) := by decide +kernel
theorem dL_isAhead_94 : decode cL_isAhead 94 = .ok (.if_icmp .ne 7, 3) := by decide +kernel
theorem dL_isAhead_97 : decode cL_isAhead 97 = .ok (.iconst 1, 1) := by decide +kernel
theorem dL_isAhead_98 : decode cL_isAhead 98 = .ok (.goto 4, 3) := by decide +kernel
theorem dL_isAhead_101 : decode cL_isAhead 101 = .ok (.iconst 0, 1) := by decide +kernel
theorem dL_isAhead_102 : decode cL_isAhead 102 = .ok (.ireturn, 1) := by decide +kernel
theorem dL_isAhead_103 : decode cL_isAhead 103 = .ok (.aload 6, 2) := by decide +kernel
theorem dL_isAhead_105 : decode cL_isAhead 105 = .ok (.aload 7, 2) := by decide +kernel
theorem dL_isAhead_107 : decode cL_isAhead 107 = .ok (.aload 8, 2) := by decide +kernel
theorem dL_isAhead_109 : decode cL_isAhead 109 = .ok (.aload 9, 2) := by decide +kernel
theorem dL_isAhead_111 : decode cL_isAhead 111 = .ok (.invokestatic 23, 3) := by decide +kernel
theorem dL_isAhead_114 : decode cL_isAhead 114 = .ok (.aload_n 0, 1) := by decide +kernel
theorem dL_isAhead_115 : decode cL_isAhead 115 = .ok (.iconst 0, 1) := by decide +kernel
theorem dL_isAhead_116 : decode cL_isAhead 116 = .ok (.invokevirtual 31, 3) := by decide +kernel
theorem dL_isAhead_119 : decode cL_isAhead 119 = .ok (.aload_n 2, 1) := by decide +kernel
theorem dL_isAhead_120 : decode cL_isAhead 120 = .ok (.aload_n 3, 1) := by decide +kernel
theorem dL_isAhead_121 : decode cL_isAhead 121 = .ok (.aload 4, 2) := by decide +kernel
theorem dL_isAhead_123 : decode cL_isAhead 123 = .ok (.aload_n 2, 1) := by decide +kernel
theorem dL_isAhead_124 : decode cL_isAhead 124 = .ok (.bipush 14, 2) := by decide +kernel
theorem dL_isAhead_126 : decode cL_isAhead 126 = .ok (.iaload, 1) := by decide +kernel
theorem dL_isAhead_127 : decode cL_isAhead 127 = .ok (.invokestatic 15, 3) := by decide +kernel
theorem dL_isAhead_130 : decode cL_isAhead 130 = .ok (.if_icmp .ne 29, 3) := by decide +kernel
theorem dL_isAhead_133 : decode cL_isAhead 133 = .ok (.aload_n 0, 1) := by decide +kernel
theorem dL_isAhead_134 : decode cL_isAhead 134 = .ok (.iconst 1, 1) := by decide +kernel
theorem dL_isAhead_135 : decode cL_isAhead 135 = .ok (.invokevirtual 31, 3) := by decide +kernel
theorem dL_isAhead_138 : decode cL_isAhead 138 = .ok (.aload 6, 2) := by decide +kernel
theorem dL_isAhead_140 : decode cL_isAhead 140 = .ok (.bipush 15, 2) := by decide +kernel
theorem dL_isAhead_142 : decode cL_isAhead 142 = .ok (.iaload, 1) := by decide +kernel
theorem dL_isAhead_143 : decode cL_isAhead 143 = .ok (.if_icmp .ne 16, 3) := by decide +kernel
theorem dL_isAhead_146 : decode cL_isAhead 146 = .ok (.aload_n 0, 1) := by decide +kernel
theorem dL_isAhead_147 : decode cL_isAhead 147 = .ok (.iconst 2, 1) := by decide +kernel
theorem dL_isAhead_148 : decode cL_isAhead 148 = .ok (.invokevirtual 31, 3) := by decide +kernel
theorem dL_isAhead_151 : decode cL_isAhead 151 = .ok (.aload 6, 2) := by decide +kernel
theorem dL_isAhead_153 : decode cL_isAhead 153 = .ok (.bipush 14, 2) := by decide +kernel
theorem dL_isAhead_155 : decode cL_isAhead 155 = .ok (.iaload, 1) := by decide +kernel
theorem dL_isAhead_156 : decode cL_isAhead 156 = .ok (.if_icmp .eq 5, 3) := by decide +kernel
theorem dL_isAhead_159 : decode cL_isAhead 159 = .ok (.iconst 0, 1) := by decide +kernel
theorem dL_isAhead_160 : decode cL_isAhead 160 = .ok (.ireturn, 1) := by decide +kernel
theorem dL_isAhead_161 : decode cL_isAhead 161 = .ok (.iconst 1, 1) := by decide +kernel
theorem dL_isAhead_162 : decode cL_isAhead 162 = .ok (.iload_n 1, 1) := by decide +kernel
theorem dL_isAhead_163 : decode cL_isAhead 163 = .ok (.iconst 1, 1) := by decide +kernel
theorem dL_isAhead_164 : decode cL_isAhead 164 = .ok (.isub, 1) := by decide +kernel
theorem dL_isAhead_165 : decode cL_isAhead 165 = .ok (.aload 6, 2) := by decide +kernel
theorem dL_isAhead_167 : decode cL_isAhead 167 = .ok (.aload 7, 2) := by decide +kernel
theorem dL_isAhead_169 : decode cL_isAhead 169 = .ok (.aload 8, 2) := by decide +kernel
theorem dL_isAhead_171 : decode cL_isAhead 171 = .ok (.aload 9, 2) := by decide +kernel
theorem dL_isAhead_173 : decode cL_isAhead 173 = .ok (.invokestatic 45, 3) := by decide +kernel
theorem dL_isAhead_176 : decode cL_isAhead 176 = .ok (.iadd, 1) := by decide +kernel
theorem dL_isAhead_177 : decode cL_isAhead 177 = .ok (.istore 10, 2) := by decide +kernel
theorem dL_isAhead_179 : decode cL_isAhead 179 = .ok (.iconst 0, 1) := by decide +kernel
theorem dL_isAhead_180 : decode cL_isAhead 180 = .ok (.istore 11, 2) := by decide +kernel
theorem dL_isAhead_182 : decode cL_isAhead 182 = .ok (.iconst 0, 1) := by decide +kernel
theorem dL_isAhead_183 : decode cL_isAhead 183 = .ok (.istore 12, 2) := by decide +kernel
theorem dL_isAhead_185 : decode cL_isAhead 185 = .ok (.iload 12, 2) := by decide +kernel
theorem dL_isAhead_187 : decode cL_isAhead 187 = .ok (.bipush 52, 2) := by decide +kernel
theorem dL_isAhead_189 : decode cL_isAhead 189 = .ok (.if_icmp .ge 31, 3) := by decide +kernel
theorem dL_isAhead_192 : decode cL_isAhead 192 = .ok (.iload 11, 2) := by decide +kernel
theorem dL_isAhead_194 : decode cL_isAhead 194 = .ok (.aload_n 3, 1) := by decide +kernel
theorem dL_isAhead_195 : decode cL_isAhead 195 = .ok (.iload 12, 2) := by decide +kernel
theorem dL_isAhead_197 : decode cL_isAhead 197 = .ok (.iaload, 1) := by decide +kernel
theorem dL_isAhead_198 : decode cL_isAhead 198 = .ok (.aload 7, 2) := by decide +kernel
theorem dL_isAhead_200 : decode cL_isAhead 200 = .ok (.iload 12, 2) := by decide +kernel
theorem dL_isAhead_202 : decode cL_isAhead 202 = .ok (.iaload, 1) := by decide +kernel
theorem dL_isAhead_203 : decode cL_isAhead 203 = .ok (.if_icmp .eq 7, 3) := by decide +kernel
theorem dL_isAhead_206 : decode cL_isAhead 206 = .ok (.iconst 1, 1) := by decide +kernel
theorem dL_isAhead_207 : decode cL_isAhead 207 = .ok (.goto 4, 3) := by decide +kernel
theorem dL_isAhead_210 : decode cL_isAhead 210 = .ok (.iconst 0, 1) := by decide +kernel
theorem dL_isAhead_211 : decode cL_isAhead 211 = .ok (.iadd, 1) := by decide +kernel
theorem dL_isAhead_212 : decode cL_isAhead 212 = .ok (.istore 11, 2) := by decide +kernel
theorem dL_isAhead_214 : decode cL_isAhead 214 = .ok (.iinc 12 1, 3) := by decide +kernel
theorem dL_isAhead_217 : decode cL_isAhead 217 = .ok (.goto (-32), 3) := by decide +kernel
theorem dL_isAhead_220 : decode cL_isAhead 220 = .ok (.iconst 0, 1) := by decide +kernel
theorem dL_isAhead_221 : decode cL_isAhead 221 = .ok (.istore 12, 2) := by decide +kernel
theorem dL_isAhead_223 : decode cL_isAhead 223 = .ok (.iload 12, 2) := by decide +kernel
theorem dL_isAhead_225 : decode cL_isAhead 225 = .ok (.bipush 48, 2) := by decide +kernel
theorem dL_isAhead_227 : decode cL_isAhead 227 = .ok (.if_icmp .ge 32, 3) := by decide +kernel
theorem dL_isAhead_230 : decode cL_isAhead 230 = .ok (.iload 11, 2) := by decide +kernel
theorem dL_isAhead_232 : decode cL_isAhead 232 = .ok (.aload 4, 2) := by decide +kernel
theorem dL_isAhead_234 : decode cL_isAhead 234 = .ok (.iload 12, 2) := by decide +kernel
theorem dL_isAhead_236 : decode cL_isAhead 236 = .ok (.iaload, 1) := by decide +kernel
theorem dL_isAhead_237 : decode cL_isAhead 237 = .ok (.aload 8, 2) := by decide +kernel
theorem dL_isAhead_239 : decode cL_isAhead 239 = .ok (.iload 12, 2) := by decide +kernel
theorem dL_isAhead_241 : decode cL_isAhead 241 = .ok (.iaload, 1) := by decide +kernel
theorem dL_isAhead_242 : decode cL_isAhead 242 = .ok (.if_icmp .eq 7, 3) := by decide +kernel
theorem dL_isAhead_245 : decode cL_isAhead 245 = .ok (.iconst 1, 1) := by decide +kernel
theorem dL_isAhead_246 : decode cL_isAhead 246 = .ok (.goto 4, 3) := by decide +kernel
theorem dL_isAhead_249 : decode cL_isAhead 249 = .ok (.iconst 0, 1) := by decide +kernel
theorem dL_isAhead_250 : decode cL_isAhead 250 = .ok (.iadd, 1) := by decide +kernel
theorem dL_isAhead_251 : decode cL_isAhead 251 = .ok (.istore 11, 2) := by decide +kernel
theorem dL_isAhead_253 : decode cL_isAhead 253 = .ok (.iinc 12 1, 3) := by decide +kernel
theorem dL_isAhead_256 : decode cL_isAhead 256 = .ok (.goto (-33), 3) := by decide +kernel
theorem dL_isAhead_259 : decode cL_isAhead 259 = .ok (.aload_n 0, 1) := by decide +kernel
theorem dL_isAhead_260 : decode cL_isAhead 260 = .ok (.iload_n 1, 1) := by decide +kernel
theorem dL_isAhead_261 : decode cL_isAhead 261 = .ok (.iconst 0, 1) := by decide +kernel
theorem dL_isAhead_262 : decode cL_isAhead 262 = .ok (.invokevirtual 37, 3) := by decide +kernel
theorem dL_isAhead_265 : decode cL_isAhead 265 = .ok (.iload 10, 2) := by decide +kernel
theorem dL_isAhead_267 : decode cL_isAhead 267 = .ok (.if_icmp .ne 77, 3) := by decide +kernel
theorem dL_isAhead_270 : decode cL_isAhead 270 = .ok (.aload_n 0, 1) := by decide +kernel
theorem dL_isAhead_271 : decode cL_isAhead 271 = .ok (.iload_n 1, 1) := by decide +kernel
theorem dL_isAhead_272 : decode cL_isAhead 272 = .ok (.iconst 1, 1) := by decide +kernel
theorem dL_isAhead_273 : decode cL_isAhead 273 = .ok (.invokevirtual 37, 3) := by decide +kernel
theorem dL_isAhead_276 : decode cL_isAhead 276 = .ok (.aload 6, 2) := by decide +kernel
theorem dL_isAhead_278 : decode cL_isAhead 278 = .ok (.bipush 15, 2) := by decide +kernel
theorem dL_isAhead_280 : decode cL_isAhead 280 = .ok (.iaload, 1) := by decide +kernel
theorem dL_isAhead_281 : decode cL_isAhead 281 = .ok (.if_icmp .ne 63, 3) := by decide +kernel
theorem dL_isAhead_284 : decode cL_isAhead 284 = .ok (.aload_n 0, 1) := by decide +kernel
theorem dL_isAhead_285 : decode cL_isAhead 285 = .ok (.iload_n 1, 1) := by decide +kernel
theorem dL_isAhead_286 : decode cL_isAhead 286 = .ok (.iconst 2, 1) := by decide +kernel
theorem dL_isAhead_287 : decode cL_isAhead 287 = .ok (.invokevirtual 37, 3) := by decide +kernel
theorem dL_isAhead_290 : decode cL_isAhead 290 = .ok (.aload 6, 2) := by decide +kernel
theorem dL_isAhead_292 : decode cL_isAhead 292 = .ok (.bipush 13, 2) := by decide +kernel
theorem dL_isAhead_294 : decode cL_isAhead 294 = .ok (.iaload, 1) := by decide +kernel
theorem dL_isAhead_295 : decode cL_isAhead 295 = .ok (.if_icmp .ne 49, 3) := by decide +kernel
theorem dL_isAhead_298 : decode cL_isAhead 298 = .ok (.aload_n 0, 1) := by decide +kernel
theorem dL_isAhead_299 : decode cL_isAhead 299 = .ok (.iload_n 1, 1) := by decide +kernel
theorem dL_isAhead_300 : decode cL_isAhead 300 = .ok (.iconst 3, 1) := by decide +kernel
theorem dL_isAhead_301 : decode cL_isAhead 301 = .ok (.invokevirtual 37, 3) := by decide +kernel
theorem dL_isAhead_304 : decode cL_isAhead 304 = .ok (.aload 9, 2) := by decide +kernel
theorem dL_isAhead_306 : decode cL_isAhead 306 = .ok (.iconst 0, 1) := by decide +kernel
theorem dL_isAhead_307 : decode cL_isAhead 307 = .ok (.iaload, 1) := by decide +kernel
theorem dL_isAhead_308 : decode cL_isAhead 308 = .ok (.if_icmp .ne 36, 3) := by decide +kernel
theorem dL_isAhead_311 : decode cL_isAhead 311 = .ok (.aload_n 0, 1) := by decide +kernel
theorem dL_isAhead_312 : decode cL_isAhead 312 = .ok (.iload_n 1, 1) := by decide +kernel
theorem dL_isAhead_313 : decode cL_isAhead 313 = .ok (.iconst 4, 1) := by decide +kernel
theorem dL_isAhead_314 : decode cL_isAhead 314 = .ok (.invokevirtual 37, 3) := by decide +kernel
theorem dL_isAhead_317 : decode cL_isAhead 317 = .ok (.iload 11, 2) := by decide +kernel
theorem dL_isAhead_319 : decode cL_isAhead 319 = .ok (.if_icmp .ne 25, 3) := by decide +kernel
theorem dL_isAhead_322 : decode cL_isAhead 322 = .ok (.aload_n 0, 1) := by decide +kernel
theorem dL_isAhead_323 : decode cL_isAhead 323 = .ok (.iconst 0, 1) := by decide +kernel
theorem dL_isAhead_324 : decode cL_isAhead 324 = .ok (.iconst 0, 1) := by decide +kernel
theorem dL_isAhead_325 : decode cL_isAhead 325 = .ok (.invokevirtual 37, 3) := by decide +kernel
theorem dL_isAhead_328 : decode cL_isAhead 328 = .ok (.bipush (-2), 2) := by decide +kernel
theorem dL_isAhead_330 : decode cL_isAhead 330 = .ok (.if_icmp .ne 14, 3) := by decide +kernel
theorem dL_isAhead_333 : decode cL_isAhead 333 = .ok (.aload_n 0, 1) := by decide +kernel
theorem dL_isAhead_334 : decode cL_isAhead 334 = .ok (.iconst 1, 1) := by decide +kernel
theorem dL_isAhead_335 : decode cL_isAhead 335 = .ok (.iconst 5, 1) := by decide +kernel
theorem dL_isAhead_336 : decode cL_isAhead 336 = .ok (.invokevirtual 37, 3) := by decide +kernel
theorem dL_isAhead_339 : decode cL_isAhead 339 = .ok (.bipush (-2), 2) := by decide +kernel
theorem dL_isAhead_341 : decode cL_isAhead 341 = .ok (.if_icmp .eq 5, 3) := by decide +kernel
theorem dL_isAhead_344 : decode cL_isAhead 344 = .ok (.iconst 0, 1) := by decide +kernel
theorem dL_isAhead_345 : decode cL_isAhead 345 = .ok (.ireturn, 1) := by decide +kernel
theorem dL_isAhead_346 : decode cL_isAhead 346 = .ok (.aload_n 2, 1) := by decide +kernel
theorem dL_isAhead_347 : decode cL_isAhead 347 = .ok (.aload 6, 2) := by decide +kernel
theorem dL_isAhead_349 : decode cL_isAhead 349 = .ok (.invokestatic 27, 3) := by decide +kernel
theorem dL_isAhead_352 : decode cL_isAhead 352 = .ok (.aload_n 3, 1) := by decide +kernel
theorem dL_isAhead_353 : decode cL_isAhead 353 = .ok (.aload 7, 2) := by decide +kernel
theorem dL_isAhead_355 : decode cL_isAhead 355 = .ok (.invokestatic 27, 3) := by decide +kernel
theorem dL_isAhead_358 : decode cL_isAhead 358 = .ok (.aload 4, 2) := by decide +kernel
theorem dL_isAhead_360 : decode cL_isAhead 360 = .ok (.aload 8, 2) := by decide +kernel
theorem dL_isAhead_362 : decode cL_isAhead 362 = .ok (.invokestatic 27, 3) := by decide +kernel
theorem dL_isAhead_365 : decode cL_isAhead 365 = .ok (.aload 5, 2) := by decide +kernel
theorem dL_isAhead_367 : decode cL_isAhead 367 = .ok (.aload 9, 2) := by decide +kernel
theorem dL_isAhead_369 : decode cL_isAhead 369 = .ok (.invokestatic 27, 3) := by decide +kernel
theorem dL_isAhead_372 : decode cL_isAhead 372 = .ok (.iconst 0, 1) := by decide +kernel
theorem dL_isAhead_373 : decode cL_isAhead 373 = .ok (.istore 12, 2) := by decide +kernel
theorem dL_isAhead_375 : decode cL_isAhead 375 = .ok (.aload 5, 2) := by decide +kernel
theorem dL_isAhead_377 : decode cL_isAhead 377 = .ok (.iconst 0, 1) := by decide +kernel
theorem dL_isAhead_378 : decode cL_isAhead 378 = .ok (.iaload, 1) := by decide +kernel
theorem dL_isAhead_379 : decode cL_isAhead 379 = .ok (.ifCond .le 47, 3) := by decide +kernel
theorem dL_isAhead_382 : decode cL_isAhead 382 = .ok (.aload 9, 2) := by decide +kernel
theorem dL_isAhead_384 : decode cL_isAhead 384 = .ok (.iconst 0, 1) := by decide +kernel
theorem dL_isAhead_385 : decode cL_isAhead 385 = .ok (.iaload, 1) := by decide +kernel
theorem dL_isAhead_386 : decode cL_isAhead 386 = .ok (.aload 5, 2) := by decide +kernel
theorem dL_isAhead_388 : decode cL_isAhead 388 = .ok (.iconst 0, 1) := by decide +kernel
theorem dL_isAhead_389 : decode cL_isAhead 389 = .ok (.iaload, 1) := by decide +kernel
theorem dL_isAhead_390 : decode cL_isAhead 390 = .ok (.if_icmp .lt 36, 3) := by decide +kernel
theorem dL_isAhead_393 : decode cL_isAhead 393 = .ok (.aload 6, 2) := by decide +kernel
theorem dL_isAhead_395 : decode cL_isAhead 395 = .ok (.bipush 15, 2) := by decide +kernel
theorem dL_isAhead_397 : decode cL_isAhead 397 = .ok (.iaload, 1) := by decide +kernel
theorem dL_isAhead_398 : decode cL_isAhead 398 = .ok (.ifCond .ne 28, 3) := by decide +kernel
theorem dL_isAhead_401 : decode cL_isAhead 401 = .ok (.iload 12, 2) := by decide +kernel
theorem dL_isAhead_403 : decode cL_isAhead 403 = .ok (.sipush 500, 3) := by decide +kernel
theorem dL_isAhead_406 : decode cL_isAhead 406 = .ok (.if_icmp .ge 20, 3) := by decide +kernel
theorem dL_isAhead_409 : decode cL_isAhead 409 = .ok (.aload 6, 2) := by decide +kernel
theorem dL_isAhead_411 : decode cL_isAhead 411 = .ok (.aload 7, 2) := by decide +kernel
theorem dL_isAhead_413 : decode cL_isAhead 413 = .ok (.aload 8, 2) := by decide +kernel
theorem dL_isAhead_415 : decode cL_isAhead 415 = .ok (.aload 9, 2) := by decide +kernel
theorem dL_isAhead_417 : decode cL_isAhead 417 = .ok (.invokestatic 23, 3) := by decide +kernel
theorem dL_isAhead_420 : decode cL_isAhead 420 = .ok (.iinc 12 1, 3) := by decide +kernel
theorem dL_isAhead_423 : decode cL_isAhead 423 = .ok (.goto (-48), 3) := by decide +kernel

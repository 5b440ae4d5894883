theorem dX9_sign_19 : decode cX9_sign 19 = .ok (.iaload, 1) := by decide +kernel
theorem dX9_sign_20 : decode cX9_sign 20 = .ok (.goto 4, 3) := by decide +kernel
theorem dX9_sign_23 : decode cX9_sign 23 = .ok (.iconst 0, 1) := by decide +kernel
theorem dX9_sign_24 : decode cX9_sign 24 = .ok (.ireturn, 1) := by decide +kernel
theorem dX9_take_0 : decode cX9_take 0 = .ok (.aload_n 0, 1) := by decide +kernel
theorem dX9_take_1 : decode cX9_take 1 = .ok (.aload_n 0, 1) := by decide +kernel
theorem dX9_take_2 : decode cX9_take 2 = .ok (.getfield 111, 3) := by decide +kernel
theorem dX9_take_5 : decode cX9_take 5 = .ok (.ifCond .ne 7, 3) := by decide +kernel
theorem dX9_take_8 : decode cX9_take 8 = .ok (.iload_n 1, 1) := by decide +kernel
theorem dX9_take_9 : decode cX9_take 9 = .ok (.ifCond .ne 7, 3) := by decide +kernel
theorem dX9_take_12 : decode cX9_take 12 = .ok (.iconst 1, 1) := by decide +kernel
theorem dX9_take_13 : decode cX9_take 13 = .ok (.goto 4, 3) := by decide +kernel
theorem dX9_take_16 : decode cX9_take 16 = .ok (.iconst 0, 1) := by decide +kernel
theorem dX9_take_17 : decode cX9_take 17 = .ok (.putfield 111, 3) := by decide +kernel
theorem dX9_take_20 : decode cX9_take 20 = .ok (.aload_n 0, 1) := by decide +kernel
theorem dX9_take_21 : decode cX9_take 21 = .ok (.dup, 1) := by decide +kernel
theorem dX9_take_22 : decode cX9_take 22 = .ok (.getfield 108, 3) := by decide +kernel
theorem dX9_take_25 : decode cX9_take 25 = .ok (.aload_n 0, 1) := by decide +kernel
theorem dX9_take_26 : decode cX9_take 26 = .ok (.getfield 111, 3) := by decide +kernel
theorem dX9_take_29 : decode cX9_take 29 = .ok (.ifCond .eq 7, 3) := by decide +kernel
theorem dX9_take_32 : decode cX9_take 32 = .ok (.iconst 0, 1) := by decide +kernel
theorem dX9_take_33 : decode cX9_take 33 = .ok (.goto 4, 3) := by decide +kernel
theorem dX9_take_36 : decode cX9_take 36 = .ok (.iconst 1, 1) := by decide +kernel
theorem dX9_take_37 : decode cX9_take 37 = .ok (.iadd, 1) := by decide +kernel
theorem dX9_take_38 : decode cX9_take 38 = .ok (.putfield 108, 3) := by decide +kernel
theorem dX9_take_41 : decode cX9_take 41 = .ok (.return_, 1) := by decide +kernel
theorem dX9_takeRest_0 : decode cX9_takeRest 0 = .ok (.aload_n 0, 1) := by decide +kernel
theorem dX9_takeRest_1 : decode cX9_takeRest 1 = .ok (.aload_n 0, 1) := by decide +kernel
theorem dX9_takeRest_2 : decode cX9_takeRest 2 = .ok (.invokevirtual 114, 3) := by decide +kernel
theorem dX9_takeRest_5 : decode cX9_takeRest 5 = .ok (.iload_n 1, 1) := by decide +kernel
theorem dX9_takeRest_6 : decode cX9_takeRest 6 = .ok (.if_icmp .ne 7, 3) := by decide +kernel
theorem dX9_takeRest_9 : decode cX9_takeRest 9 = .ok (.iconst 1, 1) := by decide +kernel
theorem dX9_takeRest_10 : decode cX9_takeRest 10 = .ok (.goto 4, 3) := by decide +kernel
theorem dX9_takeRest_13 : decode cX9_takeRest 13 = .ok (.iconst 0, 1) := by decide +kernel
theorem dX9_takeRest_14 : decode cX9_takeRest 14 = .ok (.invokevirtual 117, 3) := by decide +kernel
theorem dX9_takeRest_17 : decode cX9_takeRest 17 = .ok (.aload_n 0, 1) := by decide +kernel
theorem dX9_takeRest_18 : decode cX9_takeRest 18 = .ok (.aload_n 0, 1) := by decide +kernel
theorem dX9_takeRest_19 : decode cX9_takeRest 19 = .ok (.invokevirtual 114, 3) := by decide +kernel
theorem dX9_takeRest_22 : decode cX9_takeRest 22 = .ok (.iload_n 2, 1) := by decide +kernel
theorem dX9_takeRest_23 : decode cX9_takeRest 23 = .ok (.if_icmp .ne 7, 3) := by decide +kernel
theorem dX9_takeRest_26 : decode cX9_takeRest 26 = .ok (.iconst 1, 1) := by decide +kernel
theorem dX9_takeRest_27 : decode cX9_takeRest 27 = .ok (.goto 4, 3) := by decide +kernel
theorem dX9_takeRest_30 : decode cX9_takeRest 30 = .ok (.iconst 0, 1) := by decide +kernel
theorem dX9_takeRest_31 : decode cX9_takeRest 31 = .ok (.invokevirtual 117, 3) := by decide +kernel
theorem dX9_takeRest_34 : decode cX9_takeRest 34 = .ok (.iload_n 3, 1) := by decide +kernel
theorem dX9_takeRest_35 : decode cX9_takeRest 35 = .ok (.ifCond .le 20, 3) := by decide +kernel
theorem dX9_takeRest_38 : decode cX9_takeRest 38 = .ok (.aload_n 0, 1) := by decide +kernel
theorem dX9_takeRest_39 : decode cX9_takeRest 39 = .ok (.aload_n 0, 1) := by decide +kernel
theorem dX9_takeRest_40 : decode cX9_takeRest 40 = .ok (.invokevirtual 114, 3) := by decide +kernel
theorem dX9_takeRest_43 : decode cX9_takeRest 43 = .ok (.iload_n 3, 1) := by decide +kernel
theorem dX9_takeRest_44 : decode cX9_takeRest 44 = .ok (.if_icmp .ne 7, 3) := by decide +kernel
theorem dX9_takeRest_47 : decode cX9_takeRest 47 = .ok (.iconst 1, 1) := by decide +kernel
theorem dX9_takeRest_48 : decode cX9_takeRest 48 = .ok (.goto 4, 3) := by decide +kernel
theorem dX9_takeRest_51 : decode cX9_takeRest 51 = .ok (.iconst 0, 1) := by decide +kernel
theorem dX9_takeRest_52 : decode cX9_takeRest 52 = .ok (.invokevirtual 117, 3) := by decide +kernel
theorem dX9_takeRest_55 : decode cX9_takeRest 55 = .ok (.iload 4, 2) := by decide +kernel
theorem dX9_takeRest_57 : decode cX9_takeRest 57 = .ok (.ifCond .le 21, 3) := by decide +kernel
theorem dX9_takeRest_60 : decode cX9_takeRest 60 = .ok (.aload_n 0, 1) := by decide +kernel
theorem dX9_takeRest_61 : decode cX9_takeRest 61 = .ok (.aload_n 0, 1) := by decide +kernel
theorem dX9_takeRest_62 : decode cX9_takeRest 62 = .ok (.invokevirtual 114, 3) := by decide +kernel
theorem dX9_takeRest_65 : decode cX9_takeRest 65 = .ok (.iload 4, 2) := by decide +kernel
theorem dX9_takeRest_67 : decode cX9_takeRest 67 = .ok (.if_icmp .ne 7, 3) := by decide +kernel
theorem dX9_takeRest_70 : decode cX9_takeRest 70 = .ok (.iconst 1, 1) := by decide +kernel
theorem dX9_takeRest_71 : decode cX9_takeRest 71 = .ok (.goto 4, 3) := by decide +kernel
theorem dX9_takeRest_74 : decode cX9_takeRest 74 = .ok (.iconst 0, 1) := by decide +kernel
theorem dX9_takeRest_75 : decode cX9_takeRest 75 = .ok (.invokevirtual 117, 3) := by decide +kernel
theorem dX9_takeRest_78 : decode cX9_takeRest 78 = .ok (.return_, 1) := by decide +kernel
theorem dX9_takeNumber_0 : decode cX9_takeNumber 0 = .ok (.aload_n 0, 1) := by decide +kernel
theorem dX9_takeNumber_1 : decode cX9_takeNumber 1 = .ok (.aload_n 0, 1) := by decide +kernel
theorem dX9_takeNumber_2 : decode cX9_takeNumber 2 = .ok (.invokevirtual 114, 3) := by decide +kernel
theorem dX9_takeNumber_5 : decode cX9_takeNumber 5 = .ok (.bipush 32, 2) := by decide +kernel
theorem dX9_takeNumber_7 : decode cX9_takeNumber 7 = .ok (.if_icmp .ne 7, 3) := by decide +kernel
theorem dX9_takeNumber_10 : decode cX9_takeNumber 10 = .ok (.iconst 1, 1) := by decide +kernel
theorem dX9_takeNumber_11 : decode cX9_takeNumber 11 = .ok (.goto 4, 3) := by decide +kernel
theorem dX9_takeNumber_14 : decode cX9_takeNumber 14 = .ok (.iconst 0, 1) := by decide +kernel
theorem dX9_takeNumber_15 : decode cX9_takeNumber 15 = .ok (.invokevirtual 117, 3) := by decide +kernel
theorem dX9_takeNumber_18 : decode cX9_takeNumber 18 = .ok (.aload_n 0, 1) := by decide +kernel
theorem dX9_takeNumber_19 : decode cX9_takeNumber 19 = .ok (.invokevirtual 114, 3) := by decide +kernel
theorem dX9_takeNumber_22 : decode cX9_takeNumber 22 = .ok (.bipush 48, 2) := by decide +kernel
theorem dX9_takeNumber_24 : decode cX9_takeNumber 24 = .ok (.isub, 1) := by decide +kernel
theorem dX9_takeNumber_25 : decode cX9_takeNumber 25 = .ok (.istore_n 2, 1) := by decide +kernel
theorem dX9_takeNumber_26 : decode cX9_takeNumber 26 = .ok (.aload_n 0, 1) := by decide +kernel
theorem dX9_takeNumber_27 : decode cX9_takeNumber 27 = .ok (.iload_n 2, 1) := by decide +kernel
theorem dX9_takeNumber_28 : decode cX9_takeNumber 28 = .ok (.iconst 0, 1) := by decide +kernel
theorem dX9_takeNumber_29 : decode cX9_takeNumber 29 = .ok (.bipush 9, 2) := by decide +kernel
theorem dX9_takeNumber_31 : decode cX9_takeNumber 31 = .ok (.invokestatic 28, 3) := by decide +kernel
theorem dX9_takeNumber_34 : decode cX9_takeNumber 34 = .ok (.ifCond .eq 12, 3) := by decide +kernel
theorem dX9_takeNumber_37 : decode cX9_takeNumber 37 = .ok (.iload_n 2, 1) := by decide +kernel
theorem dX9_takeNumber_38 : decode cX9_takeNumber 38 = .ok (.iload_n 1, 1) := by decide +kernel
theorem dX9_takeNumber_39 : decode cX9_takeNumber 39 = .ok (.if_icmp .gt 7, 3) := by decide +kernel
theorem dX9_takeNumber_42 : decode cX9_takeNumber 42 = .ok (.iconst 1, 1) := by decide +kernel
theorem dX9_takeNumber_43 : decode cX9_takeNumber 43 = .ok (.goto 4, 3) := by decide +kernel
theorem dX9_takeNumber_46 : decode cX9_takeNumber 46 = .ok (.iconst 0, 1) := by decide +kernel
theorem dX9_takeNumber_47 : decode cX9_takeNumber 47 = .ok (.invokevirtual 117, 3) := by decide +kernel
theorem dX9_takeNumber_50 : decode cX9_takeNumber 50 = .ok (.aload_n 0, 1) := by decide +kernel
theorem dX9_takeNumber_51 : decode cX9_takeNumber 51 = .ok (.getfield 111, 3) := by decide +kernel
theorem dX9_takeNumber_54 : decode cX9_takeNumber 54 = .ok (.ifCond .ne 63, 3) := by decide +kernel
theorem dX9_takeNumber_57 : decode cX9_takeNumber 57 = .ok (.iload_n 2, 1) := by decide +kernel
theorem dX9_takeNumber_58 : decode cX9_takeNumber 58 = .ok (.ifCond .le 59, 3) := by decide +kernel
theorem dX9_takeNumber_61 : decode cX9_takeNumber 61 = .ok (.aload_n 0, 1) := by decide +kernel
theorem dX9_takeNumber_62 : decode cX9_takeNumber 62 = .ok (.invokevirtual 114, 3) := by decide +kernel
theorem dX9_takeNumber_65 : decode cX9_takeNumber 65 = .ok (.bipush 48, 2) := by decide +kernel
theorem dX9_takeNumber_67 : decode cX9_takeNumber 67 = .ok (.bipush 57, 2) := by decide +kernel
theorem dX9_takeNumber_69 : decode cX9_takeNumber 69 = .ok (.invokestatic 28, 3) := by decide +kernel
theorem dX9_takeNumber_72 : decode cX9_takeNumber 72 = .ok (.ifCond .eq 45, 3) := by decide +kernel
theorem dX9_takeNumber_75 : decode cX9_takeNumber 75 = .ok (.bipush 10, 2) := by decide +kernel
theorem dX9_takeNumber_77 : decode cX9_takeNumber 77 = .ok (.iload_n 2, 1) := by decide +kernel
theorem dX9_takeNumber_78 : decode cX9_takeNumber 78 = .ok (.imul, 1) := by decide +kernel
theorem dX9_takeNumber_79 : decode cX9_takeNumber 79 = .ok (.aload_n 0, 1) := by decide +kernel
theorem dX9_takeNumber_80 : decode cX9_takeNumber 80 = .ok (.invokevirtual 114, 3) := by decide +kernel
theorem dX9_takeNumber_83 : decode cX9_takeNumber 83 = .ok (.iadd, 1) := by decide +kernel
theorem dX9_takeNumber_84 : decode cX9_takeNumber 84 = .ok (.bipush 48, 2) := by decide +kernel
theorem dX9_takeNumber_86 : decode cX9_takeNumber 86 = .ok (.isub, 1) := by decide +kernel
theorem dX9_takeNumber_87 : decode cX9_takeNumber 87 = .ok (.iload_n 1, 1) := by decide +kernel
theorem dX9_takeNumber_88 : decode cX9_takeNumber 88 = .ok (.if_icmp .gt 29, 3) := by decide +kernel
theorem dX9_takeNumber_91 : decode cX9_takeNumber 91 = .ok (.bipush 10, 2) := by decide +kernel
theorem dX9_takeNumber_93 : decode cX9_takeNumber 93 = .ok (.iload_n 2, 1) := by decide +kernel
theorem dX9_takeNumber_94 : decode cX9_takeNumber 94 = .ok (.imul, 1) := by decide +kernel
theorem dX9_takeNumber_95 : decode cX9_takeNumber 95 = .ok (.aload_n 0, 1) := by decide +kernel
theorem dX9_takeNumber_96 : decode cX9_takeNumber 96 = .ok (.invokevirtual 114, 3) := by decide +kernel
theorem dX9_takeNumber_99 : decode cX9_takeNumber 99 = .ok (.iadd, 1) := by decide +kernel
theorem dX9_takeNumber_100 : decode cX9_takeNumber 100 = .ok (.bipush 48, 2) := by decide +kernel
theorem dX9_takeNumber_102 : decode cX9_takeNumber 102 = .ok (.isub, 1) := by decide +kernel
theorem dX9_takeNumber_103 : decode cX9_takeNumber 103 = .ok (.istore_n 2, 1) := by decide +kernel
theorem dX9_takeNumber_104 : decode cX9_takeNumber 104 = .ok (.aload_n 0, 1) := by decide +kernel
theorem dX9_takeNumber_105 : decode cX9_takeNumber 105 = .ok (.dup, 1) := by decide +kernel
theorem dX9_takeNumber_106 : decode cX9_takeNumber 106 = .ok (.getfield 108, 3) := by decide +kernel
theorem dX9_takeNumber_109 : decode cX9_takeNumber 109 = .ok (.iconst 1, 1) := by decide +kernel
theorem dX9_takeNumber_110 : decode cX9_takeNumber 110 = .ok (.iadd, 1) := by decide +kernel
theorem dX9_takeNumber_111 : decode cX9_takeNumber 111 = .ok (.putfield 108, 3) := by decide +kernel
theorem dX9_takeNumber_114 : decode cX9_takeNumber 114 = .ok (.goto (-64), 3) := by decide +kernel
theorem dX9_takeNumber_117 : decode cX9_takeNumber 117 = .ok (.iload_n 2, 1) := by decide +kernel
theorem dX9_takeNumber_118 : decode cX9_takeNumber 118 = .ok (.ireturn, 1) := by decide +kernel
theorem dX9_takeOrder_0 : decode cX9_takeOrder 0 = .ok (.aload_n 0, 1) := by decide +kernel
theorem dX9_takeOrder_1 : decode cX9_takeOrder 1 = .ok (.invokevirtual 114, 3) := by decide +kernel
theorem dX9_takeOrder_4 : decode cX9_takeOrder 4 = .ok (.istore_n 1, 1) := by decide +kernel
theorem dX9_takeOrder_5 : decode cX9_takeOrder 5 = .ok (.aload_n 0, 1) := by decide +kernel
theorem dX9_takeOrder_6 : decode cX9_takeOrder 6 = .ok (.iload_n 1, 1) := by decide +kernel
theorem dX9_takeOrder_7 : decode cX9_takeOrder 7 = .ok (.bipush 104, 2) := by decide +kernel
theorem dX9_takeOrder_9 : decode cX9_takeOrder 9 = .ok (.if_icmp .eq 51, 3) := by decide +kernel
theorem dX9_takeOrder_12 : decode cX9_takeOrder 12 = .ok (.iload_n 1, 1) := by decide +kernel
theorem dX9_takeOrder_13 : decode cX9_takeOrder 13 = .ok (.bipush 108, 2) := by decide +kernel
theorem dX9_takeOrder_15 : decode cX9_takeOrder 15 = .ok (.if_icmp .eq 45, 3) := by decide +kernel
theorem dX9_takeOrder_18 : decode cX9_takeOrder 18 = .ok (.iload_n 1, 1) := by decide +kernel
theorem dX9_takeOrder_19 : decode cX9_takeOrder 19 = .ok (.bipush 97, 2) := by decide +kernel
theorem dX9_takeOrder_21 : decode cX9_takeOrder 21 = .ok (.if_icmp .eq 39, 3) := by decide +kernel
theorem dX9_takeOrder_24 : decode cX9_takeOrder 24 = .ok (.iload_n 1, 1) := by decide +kernel
theorem dX9_takeOrder_25 : decode cX9_takeOrder 25 = .ok (.bipush 115, 2) := by decide +kernel
theorem dX9_takeOrder_27 : decode cX9_takeOrder 27 = .ok (.if_icmp .eq 33, 3) := by decide +kernel
theorem dX9_takeOrder_30 : decode cX9_takeOrder 30 = .ok (.iload_n 1, 1) := by decide +kernel
theorem dX9_takeOrder_31 : decode cX9_takeOrder 31 = .ok (.bipush 106, 2) := by decide +kernel
theorem dX9_takeOrder_33 : decode cX9_takeOrder 33 = .ok (.if_icmp .eq 27, 3) := by decide +kernel
theorem dX9_takeOrder_36 : decode cX9_takeOrder 36 = .ok (.iload_n 1, 1) := by decide +kernel
theorem dX9_takeOrder_37 : decode cX9_takeOrder 37 = .ok (.bipush 122, 2) := by decide +kernel
theorem dX9_takeOrder_39 : decode cX9_takeOrder 39 = .ok (.if_icmp .eq 21, 3) := by decide +kernel
theorem dX9_takeOrder_42 : decode cX9_takeOrder 42 = .ok (.iload_n 1, 1) := by decide +kernel
theorem dX9_takeOrder_43 : decode cX9_takeOrder 43 = .ok (.bipush 99, 2) := by decide +kernel
theorem dX9_takeOrder_45 : decode cX9_takeOrder 45 = .ok (.if_icmp .eq 15, 3) := by decide +kernel
theorem dX9_takeOrder_48 : decode cX9_takeOrder 48 = .ok (.iload_n 1, 1) := by decide +kernel
theorem dX9_takeOrder_49 : decode cX9_takeOrder 49 = .ok (.bipush 98, 2) := by decide +kernel
theorem dX9_takeOrder_51 : decode cX9_takeOrder 51 = .ok (.if_icmp .eq 9, 3) := by decide +kernel
theorem dX9_takeOrder_54 : decode cX9_takeOrder 54 = .ok (.iload_n 1, 1) := by decide +kernel
theorem dX9_takeOrder_55 : decode cX9_takeOrder 55 = .ok (.bipush 112, 2) := by decide +kernel
theorem dX9_takeOrder_57 : decode cX9_takeOrder 57 = .ok (.if_icmp .ne 7, 3) := by decide +kernel
theorem dX9_takeOrder_60 : decode cX9_takeOrder 60 = .ok (.iconst 1, 1) := by decide +kernel
theorem dX9_takeOrder_61 : decode cX9_takeOrder 61 = .ok (.goto 4, 3) := by decide +kernel
theorem dX9_takeOrder_64 : decode cX9_takeOrder 64 = .ok (.iconst 0, 1) := by decide +kernel
theorem dX9_takeOrder_65 : decode cX9_takeOrder 65 = .ok (.invokevirtual 117, 3) := by decide +kernel
theorem dX9_takeOrder_68 : decode cX9_takeOrder 68 = .ok (.aload_n 0, 1) := by decide +kernel
theorem dX9_takeOrder_69 : decode cX9_takeOrder 69 = .ok (.getfield 111, 3) := by decide +kernel
theorem dX9_takeOrder_72 : decode cX9_takeOrder 72 = .ok (.ifCond .eq 5, 3) := by decide +kernel
theorem dX9_takeOrder_75 : decode cX9_takeOrder 75 = .ok (.iconst 0, 1) := by decide +kernel
theorem dX9_takeOrder_76 : decode cX9_takeOrder 76 = .ok (.ireturn, 1) := by decide +kernel
theorem dX9_takeOrder_77 : decode cX9_takeOrder 77 = .ok (.iload_n 1, 1) := by decide +kernel
theorem dX9_takeOrder_78 : decode cX9_takeOrder 78 = .ok (.tableswitch 286 97 122 #[152, 249, 217, 286, 286, 286, 286, 118, 286, 173, 286, 131, 286, 286, 286, 264, 286, 286, 286, 286, 286, 286, 286, 286, 286, 195], 118) := by decide +kernel
theorem dX9_takeOrder_196 : decode cX9_takeOrder 196 = .ok (.aload_n 0, 1) := by decide +kernel
theorem dX9_takeOrder_197 : decode cX9_takeOrder 197 = .ok (.bipush 97, 2) := by decide +kernel
theorem dX9_takeOrder_199 : decode cX9_takeOrder 199 = .ok (.bipush 108, 2) := by decide +kernel
theorem dX9_takeOrder_201 : decode cX9_takeOrder 201 = .ok (.bipush 116, 2) := by decide +kernel
theorem dX9_takeOrder_203 : decode cX9_takeOrder 203 = .ok (.iconst 0, 1) := by decide +kernel
theorem dX9_takeOrder_204 : decode cX9_takeOrder 204 = .ok (.invokevirtual 121, 3) := by decide +kernel
theorem dX9_takeOrder_207 : decode cX9_takeOrder 207 = .ok (.iconst 0, 1) := by decide +kernel
theorem dX9_takeOrder_208 : decode cX9_takeOrder 208 = .ok (.ireturn, 1) := by decide +kernel
theorem dX9_takeOrder_209 : decode cX9_takeOrder 209 = .ok (.aload_n 0, 1) := by decide +kernel
theorem dX9_takeOrder_210 : decode cX9_takeOrder 210 = .ok (.bipush 111, 2) := by decide +kernel
theorem dX9_takeOrder_212 : decode cX9_takeOrder 212 = .ok (.bipush 97, 2) := by decide +kernel
theorem dX9_takeOrder_214 : decode cX9_takeOrder 214 = .ok (.bipush 100, 2) := by decide +kernel
theorem dX9_takeOrder_216 : decode cX9_takeOrder 216 = .ok (.iconst 0, 1) := by decide +kernel
theorem dX9_takeOrder_217 : decode cX9_takeOrder 217 = .ok (.invokevirtual 121, 3) := by decide +kernel
theorem dX9_takeOrder_220 : decode cX9_takeOrder 220 = .ok (.bipush 100, 2) := by decide +kernel
theorem dX9_takeOrder_222 : decode cX9_takeOrder 222 = .ok (.aload_n 0, 1) := by decide +kernel
theorem dX9_takeOrder_223 : decode cX9_takeOrder 223 = .ok (.bipush 99, 2) := by decide +kernel
theorem dX9_takeOrder_225 : decode cX9_takeOrder 225 = .ok (.invokevirtual 125, 3) := by decide +kernel
theorem dX9_takeOrder_228 : decode cX9_takeOrder 228 = .ok (.iadd, 1) := by decide +kernel
theorem dX9_takeOrder_229 : decode cX9_takeOrder 229 = .ok (.ireturn, 1) := by decide +kernel
theorem dX9_takeOrder_230 : decode cX9_takeOrder 230 = .ok (.aload_n 0, 1) := by decide +kernel
theorem dX9_takeOrder_231 : decode cX9_takeOrder 231 = .ok (.bipush 100, 2) := by decide +kernel
theorem dX9_takeOrder_233 : decode cX9_takeOrder 233 = .ok (.bipush 100, 2) := by decide +kernel
theorem dX9_takeOrder_235 : decode cX9_takeOrder 235 = .ok (.iconst 0, 1) := by decide +kernel
theorem dX9_takeOrder_236 : decode cX9_takeOrder 236 = .ok (.iconst 0, 1) := by decide +kernel
theorem dX9_takeOrder_237 : decode cX9_takeOrder 237 = .ok (.invokevirtual 121, 3) := by decide +kernel
theorem dX9_takeOrder_240 : decode cX9_takeOrder 240 = .ok (.sipush 200, 3) := by decide +kernel
theorem dX9_takeOrder_243 : decode cX9_takeOrder 243 = .ok (.aload_n 0, 1) := by decide +kernel
theorem dX9_takeOrder_244 : decode cX9_takeOrder 244 = .ok (.bipush 63, 2) := by decide +kernel
theorem dX9_takeOrder_246 : decode cX9_takeOrder 246 = .ok (.invokevirtual 125, 3) := by decide +kernel
theorem dX9_takeOrder_249 : decode cX9_takeOrder 249 = .ok (.iadd, 1) := by decide +kernel
theorem dX9_takeOrder_250 : decode cX9_takeOrder 250 = .ok (.ireturn, 1) := by decide +kernel
theorem dX9_takeOrder_251 : decode cX9_takeOrder 251 = .ok (.aload_n 0, 1) := by decide +kernel
theorem dX9_takeOrder_252 : decode cX9_takeOrder 252 = .ok (.bipush 117, 2) := by decide +kernel
theorem dX9_takeOrder_254 : decode cX9_takeOrder 254 = .ok (.bipush 109, 2) := by decide +kernel
theorem dX9_takeOrder_256 : decode cX9_takeOrder 256 = .ok (.bipush 112, 2) := by decide +kernel
theorem dX9_takeOrder_258 : decode cX9_takeOrder 258 = .ok (.iconst 0, 1) := by decide +kernel
theorem dX9_takeOrder_259 : decode cX9_takeOrder 259 = .ok (.invokevirtual 121, 3) := by decide +kernel
theorem dX9_takeOrder_262 : decode cX9_takeOrder 262 = .ok (.sipush 400, 3) := by decide +kernel
theorem dX9_takeOrder_265 : decode cX9_takeOrder 265 = .ok (.aload_n 0, 1) := by decide +kernel
theorem dX9_takeOrder_266 : decode cX9_takeOrder 266 = .ok (.bipush 63, 2) := by decide +kernel
theorem dX9_takeOrder_268 : decode cX9_takeOrder 268 = .ok (.invokevirtual 125, 3) := by decide +kernel
theorem dX9_takeOrder_271 : decode cX9_takeOrder 271 = .ok (.iadd, 1) := by decide +kernel
theorem dX9_takeOrder_272 : decode cX9_takeOrder 272 = .ok (.ireturn, 1) := by decide +kernel
theorem dX9_takeOrder_273 : decode cX9_takeOrder 273 = .ok (.aload_n 0, 1) := by decide +kernel
theorem dX9_takeOrder_274 : decode cX9_takeOrder 274 = .ok (.bipush 101, 2) := by decide +kernel
theorem dX9_takeOrder_276 : decode cX9_takeOrder 276 = .ok (.bipush 114, 2) := by decide +kernel
theorem dX9_takeOrder_278 : decode cX9_takeOrder 278 = .ok (.bipush 111, 2) := by decide +kernel
theorem dX9_takeOrder_280 : decode cX9_takeOrder 280 = .ok (.iconst 0, 1) := by decide +kernel
theorem dX9_takeOrder_281 : decode cX9_takeOrder 281 = .ok (.invokevirtual 121, 3) := by decide +kernel
theorem dX9_takeOrder_284 : decode cX9_takeOrder 284 = .ok (.sipush 500, 3) := by decide +kernel
theorem dX9_takeOrder_287 : decode cX9_takeOrder 287 = .ok (.aload_n 0, 1) := by decide +kernel
theorem dX9_takeOrder_288 : decode cX9_takeOrder 288 = .ok (.bipush 63, 2) := by decide +kernel
theorem dX9_takeOrder_290 : decode cX9_takeOrder 290 = .ok (.invokevirtual 125, 3) := by decide +kernel
theorem dX9_takeOrder_293 : decode cX9_takeOrder 293 = .ok (.iadd, 1) := by decide +kernel
theorem dX9_takeOrder_294 : decode cX9_takeOrder 294 = .ok (.ireturn, 1) := by decide +kernel
theorem dX9_takeOrder_295 : decode cX9_takeOrder 295 = .ok (.aload_n 0, 1) := by decide +kernel
theorem dX9_takeOrder_296 : decode cX9_takeOrder 296 = .ok (.bipush 97, 2) := by decide +kernel
theorem dX9_takeOrder_298 : decode cX9_takeOrder 298 = .ok (.bipush 108, 2) := by decide +kernel
theorem dX9_takeOrder_300 : decode cX9_takeOrder 300 = .ok (.bipush 108, 2) := by decide +kernel
theorem dX9_takeOrder_302 : decode cX9_takeOrder 302 = .ok (.iconst 0, 1) := by decide +kernel
theorem dX9_takeOrder_303 : decode cX9_takeOrder 303 = .ok (.invokevirtual 121, 3) := by decide +kernel
theorem dX9_takeOrder_306 : decode cX9_takeOrder 306 = .ok (.sipush 700, 3) := by decide +kernel
theorem dX9_takeOrder_309 : decode cX9_takeOrder 309 = .ok (.bipush 10, 2) := by decide +kernel
theorem dX9_takeOrder_311 : decode cX9_takeOrder 311 = .ok (.aload_n 0, 1) := by decide +kernel
theorem dX9_takeOrder_312 : decode cX9_takeOrder 312 = .ok (.bipush 7, 2) := by decide +kernel
theorem dX9_takeOrder_314 : decode cX9_takeOrder 314 = .ok (.invokevirtual 125, 3) := by decide +kernel
theorem dX9_takeOrder_317 : decode cX9_takeOrder 317 = .ok (.imul, 1) := by decide +kernel
theorem dX9_takeOrder_318 : decode cX9_takeOrder 318 = .ok (.iadd, 1) := by decide +kernel
theorem dX9_takeOrder_319 : decode cX9_takeOrder 319 = .ok (.aload_n 0, 1) := by decide +kernel
theorem dX9_takeOrder_320 : decode cX9_takeOrder 320 = .ok (.bipush 9, 2) := by decide +kernel
theorem dX9_takeOrder_322 : decode cX9_takeOrder 322 = .ok (.invokevirtual 125, 3) := by decide +kernel
theorem dX9_takeOrder_325 : decode cX9_takeOrder 325 = .ok (.iadd, 1) := by decide +kernel
theorem dX9_takeOrder_326 : decode cX9_takeOrder 326 = .ok (.ireturn, 1) := by decide +kernel
theorem dX9_takeOrder_327 : decode cX9_takeOrder 327 = .ok (.aload_n 0, 1) := by decide +kernel
theorem dX9_takeOrder_328 : decode cX9_takeOrder 328 = .ok (.bipush 97, 2) := by decide +kernel
theorem dX9_takeOrder_330 : decode cX9_takeOrder 330 = .ok (.bipush 99, 2) := by decide +kernel
theorem dX9_takeOrder_332 : decode cX9_takeOrder 332 = .ok (.bipush 107, 2) := by decide +kernel
theorem dX9_takeOrder_334 : decode cX9_takeOrder 334 = .ok (.iconst 0, 1) := by decide +kernel
theorem dX9_takeOrder_335 : decode cX9_takeOrder 335 = .ok (.invokevirtual 121, 3) := by decide +kernel
theorem dX9_takeOrder_338 : decode cX9_takeOrder 338 = .ok (.sipush 800, 3) := by decide +kernel
theorem dX9_takeOrder_341 : decode cX9_takeOrder 341 = .ok (.ireturn, 1) := by decide +kernel
theorem dX9_takeOrder_342 : decode cX9_takeOrder 342 = .ok (.aload_n 0, 1) := by decide +kernel
theorem dX9_takeOrder_343 : decode cX9_takeOrder 343 = .ok (.bipush 108, 2) := by decide +kernel
theorem dX9_takeOrder_345 : decode cX9_takeOrder 345 = .ok (.bipush 117, 2) := by decide +kernel
theorem dX9_takeOrder_347 : decode cX9_takeOrder 347 = .ok (.bipush 115, 2) := by decide +kernel
theorem dX9_takeOrder_349 : decode cX9_takeOrder 349 = .ok (.iconst 0, 1) := by decide +kernel
theorem dX9_takeOrder_350 : decode cX9_takeOrder 350 = .ok (.invokevirtual 121, 3) := by decide +kernel
theorem dX9_takeOrder_353 : decode cX9_takeOrder 353 = .ok (.sipush 900, 3) := by decide +kernel
theorem dX9_takeOrder_356 : decode cX9_takeOrder 356 = .ok (.aload_n 0, 1) := by decide +kernel
theorem dX9_takeOrder_357 : decode cX9_takeOrder 357 = .ok (.bipush 99, 2) := by decide +kernel
theorem dX9_takeOrder_359 : decode cX9_takeOrder 359 = .ok (.invokevirtual 125, 3) := by decide +kernel
theorem dX9_takeOrder_362 : decode cX9_takeOrder 362 = .ok (.iadd, 1) := by decide +kernel
theorem dX9_takeOrder_363 : decode cX9_takeOrder 363 = .ok (.ireturn, 1) := by decide +kernel
theorem dX9_takeOrder_364 : decode cX9_takeOrder 364 = .ok (.aload_n 0, 1) := by decide +kernel
theorem dX9_takeOrder_365 : decode cX9_takeOrder 365 = .ok (.invokevirtual 114, 3) := by decide +kernel
theorem dX9_takeOrder_368 : decode cX9_takeOrder 368 = .ok (.bipush 116, 2) := by decide +kernel
theorem dX9_takeOrder_370 : decode cX9_takeOrder 370 = .ok (.if_icmp .ne 26, 3) := by decide +kernel
theorem dX9_takeOrder_373 : decode cX9_takeOrder 373 = .ok (.aload_n 0, 1) := by decide +kernel
theorem dX9_takeOrder_374 : decode cX9_takeOrder 374 = .ok (.bipush 116, 2) := by decide +kernel
theorem dX9_takeOrder_376 : decode cX9_takeOrder 376 = .ok (.bipush 111, 2) := by decide +kernel
theorem dX9_takeOrder_378 : decode cX9_takeOrder 378 = .ok (.bipush 114, 2) := by decide +kernel
theorem dX9_takeOrder_380 : decode cX9_takeOrder 380 = .ok (.bipush 101, 2) := by decide +kernel
theorem dX9_takeOrder_382 : decode cX9_takeOrder 382 = .ok (.invokevirtual 121, 3) := by decide +kernel
theorem dX9_takeOrder_385 : decode cX9_takeOrder 385 = .ok (.sipush 300, 3) := by decide +kernel
theorem dX9_takeOrder_388 : decode cX9_takeOrder 388 = .ok (.aload_n 0, 1) := by decide +kernel
theorem dX9_takeOrder_389 : decode cX9_takeOrder 389 = .ok (.bipush 63, 2) := by decide +kernel
theorem dX9_takeOrder_391 : decode cX9_takeOrder 391 = .ok (.invokevirtual 125, 3) := by decide +kernel
theorem dX9_takeOrder_394 : decode cX9_takeOrder 394 = .ok (.iadd, 1) := by decide +kernel
theorem dX9_takeOrder_395 : decode cX9_takeOrder 395 = .ok (.ireturn, 1) := by decide +kernel
theorem dX9_takeOrder_396 : decode cX9_takeOrder 396 = .ok (.aload_n 0, 1) := by decide +kernel
theorem dX9_takeOrder_397 : decode cX9_takeOrder 397 = .ok (.bipush 104, 2) := by decide +kernel
theorem dX9_takeOrder_399 : decode cX9_takeOrder 399 = .ok (.bipush 111, 2) := by decide +kernel
theorem dX9_takeOrder_401 : decode cX9_takeOrder 401 = .ok (.bipush 119, 2) := by decide +kernel
theorem dX9_takeOrder_403 : decode cX9_takeOrder 403 = .ok (.iconst 0, 1) := by decide +kernel
theorem dX9_takeOrder_404 : decode cX9_takeOrder 404 = .ok (.invokevirtual 121, 3) := by decide +kernel
theorem dX9_takeOrder_407 : decode cX9_takeOrder 407 = .ok (.sipush 600, 3) := by decide +kernel
theorem dX9_takeOrder_410 : decode cX9_takeOrder 410 = .ok (.bipush 10, 2) := by decide +kernel
theorem dX9_takeOrder_412 : decode cX9_takeOrder 412 = .ok (.aload_n 0, 1) := by decide +kernel
theorem dX9_takeOrder_413 : decode cX9_takeOrder 413 = .ok (.iconst 3, 1) := by decide +kernel
theorem dX9_takeOrder_414 : decode cX9_takeOrder 414 = .ok (.invokevirtual 125, 3) := by decide +kernel
theorem dX9_takeOrder_417 : decode cX9_takeOrder 417 = .ok (.imul, 1) := by decide +kernel
theorem dX9_takeOrder_418 : decode cX9_takeOrder 418 = .ok (.iadd, 1) := by decide +kernel
theorem dX9_takeOrder_419 : decode cX9_takeOrder 419 = .ok (.aload_n 0, 1) := by decide +kernel
theorem dX9_takeOrder_420 : decode cX9_takeOrder 420 = .ok (.bipush 7, 2) := by decide +kernel
theorem dX9_takeOrder_422 : decode cX9_takeOrder 422 = .ok (.invokevirtual 125, 3) := by decide +kernel
theorem dX9_takeOrder_425 : decode cX9_takeOrder 425 = .ok (.iadd, 1) := by decide +kernel
theorem dX9_takeOrder_426 : decode cX9_takeOrder 426 = .ok (.ireturn, 1) := by decide +kernel
theorem dX9_findFault_0 : decode cX9_findFault 0 = .ok (.aload_n 0, 1) := by decide +kernel
theorem dX9_findFault_1 : decode cX9_findFault 1 = .ok (.iconst 0, 1) := by decide +kernel
theorem dX9_findFault_2 : decode cX9_findFault 2 = .ok (.putfield 108, 3) := by decide +kernel
theorem dX9_findFault_5 : decode cX9_findFault 5 = .ok (.aload_n 0, 1) := by decide +kernel
theorem dX9_findFault_6 : decode cX9_findFault 6 = .ok (.iconst 0, 1) := by decide +kernel
theorem dX9_findFault_7 : decode cX9_findFault 7 = .ok (.putfield 111, 3) := by decide +kernel
theorem dX9_findFault_10 : decode cX9_findFault 10 = .ok (.aload_n 0, 1) := by decide +kernel
theorem dX9_findFault_11 : decode cX9_findFault 11 = .ok (.iconst 0, 1) := by decide +kernel
theorem dX9_findFault_12 : decode cX9_findFault 12 = .ok (.putfield 128, 3) := by decide +kernel
theorem dX9_findFault_15 : decode cX9_findFault 15 = .ok (.aload_n 0, 1) := by decide +kernel
theorem dX9_findFault_16 : decode cX9_findFault 16 = .ok (.invokevirtual 131, 3) := by decide +kernel
theorem dX9_findFault_19 : decode cX9_findFault 19 = .ok (.istore_n 1, 1) := by decide +kernel
theorem dX9_findFault_20 : decode cX9_findFault 20 = .ok (.aload_n 0, 1) := by decide +kernel
theorem dX9_findFault_21 : decode cX9_findFault 21 = .ok (.getfield 111, 3) := by decide +kernel
theorem dX9_findFault_24 : decode cX9_findFault 24 = .ok (.ifCond .eq 8, 3) := by decide +kernel
theorem dX9_findFault_27 : decode cX9_findFault 27 = .ok (.aload_n 0, 1) := by decide +kernel
theorem dX9_findFault_28 : decode cX9_findFault 28 = .ok (.getfield 108, 3) := by decide +kernel
theorem dX9_findFault_31 : decode cX9_findFault 31 = .ok (.ireturn, 1) := by decide +kernel
theorem dX9_findFault_32 : decode cX9_findFault 32 = .ok (.aload_n 0, 1) := by decide +kernel
theorem dX9_findFault_33 : decode cX9_findFault 33 = .ok (.getfield 128, 3) := by decide +kernel
theorem dX9_findFault_36 : decode cX9_findFault 36 = .ok (.bipush 16, 2) := by decide +kernel
theorem dX9_findFault_38 : decode cX9_findFault 38 = .ok (.if_icmp .ge 13, 3) := by decide +kernel
theorem dX9_findFault_41 : decode cX9_findFault 41 = .ok (.aload_n 0, 1) := by decide +kernel
theorem dX9_findFault_42 : decode cX9_findFault 42 = .ok (.getfield 25, 3) := by decide +kernel
theorem dX9_findFault_45 : decode cX9_findFault 45 = .ok (.aload_n 0, 1) := by decide +kernel
theorem dX9_findFault_46 : decode cX9_findFault 46 = .ok (.getfield 128, 3) := by decide +kernel
theorem dX9_findFault_49 : decode cX9_findFault 49 = .ok (.iload_n 1, 1) := by decide +kernel
theorem dX9_findFault_50 : decode cX9_findFault 50 = .ok (.iastore, 1) := by decide +kernel
theorem dX9_findFault_51 : decode cX9_findFault 51 = .ok (.aload_n 0, 1) := by decide +kernel
theorem dX9_findFault_52 : decode cX9_findFault 52 = .ok (.dup, 1) := by decide +kernel
theorem dX9_findFault_53 : decode cX9_findFault 53 = .ok (.getfield 128, 3) := by decide +kernel
theorem dX9_findFault_56 : decode cX9_findFault 56 = .ok (.iconst 1, 1) := by decide +kernel
theorem dX9_findFault_57 : decode cX9_findFault 57 = .ok (.iadd, 1) := by decide +kernel
theorem dX9_findFault_58 : decode cX9_findFault 58 = .ok (.putfield 128, 3) := by decide +kernel
theorem dX9_findFault_61 : decode cX9_findFault 61 = .ok (.aload_n 0, 1) := by decide +kernel
theorem dX9_findFault_62 : decode cX9_findFault 62 = .ok (.getfield 108, 3) := by decide +kernel
theorem dX9_findFault_65 : decode cX9_findFault 65 = .ok (.aload_n 0, 1) := by decide +kernel
theorem dX9_findFault_66 : decode cX9_findFault 66 = .ok (.getfield 105, 3) := by decide +kernel
theorem dX9_findFault_69 : decode cX9_findFault 69 = .ok (.if_icmp .ne 6, 3) := by decide +kernel
theorem dX9_findFault_72 : decode cX9_findFault 72 = .ok (.bipush (-5), 2) := by decide +kernel
theorem dX9_findFault_74 : decode cX9_findFault 74 = .ok (.ireturn, 1) := by decide +kernel
theorem dX9_findFault_75 : decode cX9_findFault 75 = .ok (.aload_n 0, 1) := by decide +kernel
theorem dX9_findFault_76 : decode cX9_findFault 76 = .ok (.aload_n 0, 1) := by decide +kernel
theorem dX9_findFault_77 : decode cX9_findFault 77 = .ok (.invokevirtual 114, 3) := by decide +kernel
theorem dX9_findFault_80 : decode cX9_findFault 80 = .ok (.bipush 59, 2) := by decide +kernel
theorem dX9_findFault_82 : decode cX9_findFault 82 = .ok (.if_icmp .ne 7, 3) := by decide +kernel
theorem dX9_findFault_85 : decode cX9_findFault 85 = .ok (.iconst 1, 1) := by decide +kernel
theorem dX9_findFault_86 : decode cX9_findFault 86 = .ok (.goto 4, 3) := by decide +kernel
theorem dX9_findFault_89 : decode cX9_findFault 89 = .ok (.iconst 0, 1) := by decide +kernel
theorem dX9_findFault_90 : decode cX9_findFault 90 = .ok (.invokevirtual 117, 3) := by decide +kernel
theorem dX9_findFault_93 : decode cX9_findFault 93 = .ok (.aload_n 0, 1) := by decide +kernel
theorem dX9_findFault_94 : decode cX9_findFault 94 = .ok (.getfield 111, 3) := by decide +kernel
theorem dX9_findFault_97 : decode cX9_findFault 97 = .ok (.ifCond .eq 8, 3) := by decide +kernel
theorem dX9_findFault_100 : decode cX9_findFault 100 = .ok (.aload_n 0, 1) := by decide +kernel
theorem dX9_findFault_101 : decode cX9_findFault 101 = .ok (.getfield 108, 3) := by decide +kernel
theorem dX9_findFault_104 : decode cX9_findFault 104 = .ok (.ireturn, 1) := by decide +kernel
theorem dX9_findFault_105 : decode cX9_findFault 105 = .ok (.goto (-90), 3) := by decide +kernel
theorem dX9_assemble_0 : decode cX9_assemble 0 = .ok (.iload_n 1, 1) := by decide +kernel
theorem dX9_assemble_1 : decode cX9_assemble 1 = .ok (.invokestatic 51, 3) := by decide +kernel
theorem dX9_assemble_4 : decode cX9_assemble 4 = .ok (.ifCond .eq 10, 3) := by decide +kernel
theorem dX9_assemble_7 : decode cX9_assemble 7 = .ok (.iload_n 2, 1) := by decide +kernel
theorem dX9_assemble_8 : decode cX9_assemble 8 = .ok (.invokestatic 55, 3) := by decide +kernel
theorem dX9_assemble_11 : decode cX9_assemble 11 = .ok (.ifCond .ne 5, 3) := by decide +kernel
theorem dX9_assemble_14 : decode cX9_assemble 14 = .ok (.iconst (-1), 1) := by decide +kernel
theorem dX9_assemble_15 : decode cX9_assemble 15 = .ok (.ireturn, 1) := by decide +kernel
theorem dX9_assemble_16 : decode cX9_assemble 16 = .ok (.aload_n 0, 1) := by decide +kernel
theorem dX9_assemble_17 : decode cX9_assemble 17 = .ok (.invokevirtual 134, 3) := by decide +kernel
theorem dX9_assemble_20 : decode cX9_assemble 20 = .ok (.istore_n 3, 1) := by decide +kernel
theorem dX9_assemble_21 : decode cX9_assemble 21 = .ok (.iload_n 3, 1) := by decide +kernel
theorem dX9_assemble_22 : decode cX9_assemble 22 = .ok (.ifCond .lt 8, 3) := by decide +kernel
theorem dX9_assemble_25 : decode cX9_assemble 25 = .ok (.bipush (-100), 2) := by decide +kernel
theorem dX9_assemble_27 : decode cX9_assemble 27 = .ok (.iload_n 3, 1) := by decide +kernel
theorem dX9_assemble_28 : decode cX9_assemble 28 = .ok (.isub, 1) := by decide +kernel
theorem dX9_assemble_29 : decode cX9_assemble 29 = .ok (.ireturn, 1) := by decide +kernel
theorem dX9_assemble_30 : decode cX9_assemble 30 = .ok (.iload_n 2, 1) := by decide +kernel
theorem dX9_assemble_31 : decode cX9_assemble 31 = .ok (.aload_n 0, 1) := by decide +kernel
theorem dX9_assemble_32 : decode cX9_assemble 32 = .ok (.getfield 128, 3) := by decide +kernel
theorem dX9_assemble_35 : decode cX9_assemble 35 = .ok (.iadd, 1) := by decide +kernel
theorem dX9_assemble_36 : decode cX9_assemble 36 = .ok (.bipush 16, 2) := by decide +kernel
theorem dX9_assemble_38 : decode cX9_assemble 38 = .ok (.if_icmp .le 6, 3) := by decide +kernel
theorem dX9_assemble_41 : decode cX9_assemble 41 = .ok (.bipush (-3), 2) := by decide +kernel
theorem dX9_assemble_43 : decode cX9_assemble 43 = .ok (.ireturn, 1) := by decide +kernel
theorem dX9_assemble_44 : decode cX9_assemble 44 = .ok (.aload_n 0, 1) := by decide +kernel
theorem dX9_assemble_45 : decode cX9_assemble 45 = .ok (.invokevirtual 48, 3) := by decide +kernel
theorem dX9_assemble_48 : decode cX9_assemble 48 = .ok (.iconst 0, 1) := by decide +kernel
theorem dX9_assemble_49 : decode cX9_assemble 49 = .ok (.istore 4, 2) := by decide +kernel
theorem dX9_assemble_51 : decode cX9_assemble 51 = .ok (.iload 4, 2) := by decide +kernel
theorem dX9_assemble_53 : decode cX9_assemble 53 = .ok (.aload_n 0, 1) := by decide +kernel
theorem dX9_assemble_54 : decode cX9_assemble 54 = .ok (.getfield 128, 3) := by decide +kernel
theorem dX9_assemble_57 : decode cX9_assemble 57 = .ok (.if_icmp .ge 29, 3) := by decide +kernel
theorem dX9_assemble_60 : decode cX9_assemble 60 = .ok (.aload_n 0, 1) := by decide +kernel
theorem dX9_assemble_61 : decode cX9_assemble 61 = .ok (.getfield 7, 3) := by decide +kernel
theorem dX9_assemble_64 : decode cX9_assemble 64 = .ok (.iload_n 1, 1) := by decide +kernel
theorem dX9_assemble_65 : decode cX9_assemble 65 = .ok (.iload_n 2, 1) := by decide +kernel
theorem dX9_assemble_66 : decode cX9_assemble 66 = .ok (.iload 4, 2) := by decide +kernel
theorem dX9_assemble_68 : decode cX9_assemble 68 = .ok (.iadd, 1) := by decide +kernel
theorem dX9_assemble_69 : decode cX9_assemble 69 = .ok (.invokestatic 36, 3) := by decide +kernel
theorem dX9_assemble_72 : decode cX9_assemble 72 = .ok (.aload_n 0, 1) := by decide +kernel
theorem dX9_assemble_73 : decode cX9_assemble 73 = .ok (.getfield 25, 3) := by decide +kernel
theorem dX9_assemble_76 : decode cX9_assemble 76 = .ok (.iload 4, 2) := by decide +kernel
theorem dX9_assemble_78 : decode cX9_assemble 78 = .ok (.iaload, 1) := by decide +kernel
theorem dX9_assemble_79 : decode cX9_assemble 79 = .ok (.iastore, 1) := by decide +kernel
theorem dX9_assemble_80 : decode cX9_assemble 80 = .ok (.iinc 4 1, 3) := by decide +kernel
theorem dX9_assemble_83 : decode cX9_assemble 83 = .ok (.goto (-32), 3) := by decide +kernel
theorem dX9_assemble_86 : decode cX9_assemble 86 = .ok (.aload_n 0, 1) := by decide +kernel
theorem dX9_assemble_87 : decode cX9_assemble 87 = .ok (.getfield 128, 3) := by decide +kernel
theorem dX9_assemble_90 : decode cX9_assemble 90 = .ok (.ireturn, 1) := by decide +kernel
theorem dX9_cell_0 : decode cX9_cell 0 = .ok (.iload_n 1, 1) := by decide +kernel
theorem dX9_cell_1 : decode cX9_cell 1 = .ok (.invokestatic 51, 3) := by decide +kernel
theorem dX9_cell_4 : decode cX9_cell 4 = .ok (.ifCond .eq 23, 3) := by decide +kernel
theorem dX9_cell_7 : decode cX9_cell 7 = .ok (.iload_n 2, 1) := by decide +kernel
theorem dX9_cell_8 : decode cX9_cell 8 = .ok (.invokestatic 55, 3) := by decide +kernel
theorem dX9_cell_11 : decode cX9_cell 11 = .ok (.ifCond .eq 16, 3) := by decide +kernel
theorem dX9_cell_14 : decode cX9_cell 14 = .ok (.aload_n 0, 1) := by decide +kernel
theorem dX9_cell_15 : decode cX9_cell 15 = .ok (.getfield 7, 3) := by decide +kernel
theorem dX9_cell_18 : decode cX9_cell 18 = .ok (.iload_n 1, 1) := by decide +kernel
theorem dX9_cell_19 : decode cX9_cell 19 = .ok (.iload_n 2, 1) := by decide +kernel
theorem dX9_cell_20 : decode cX9_cell 20 = .ok (.invokestatic 36, 3) := by decide +kernel
theorem dX9_cell_23 : decode cX9_cell 23 = .ok (.iaload, 1) := by decide +kernel
theorem dX9_cell_24 : decode cX9_cell 24 = .ok (.goto 4, 3) := by decide +kernel
theorem dX9_cell_27 : decode cX9_cell 27 = .ok (.iconst (-1), 1) := by decide +kernel
theorem dX9_cell_28 : decode cX9_cell 28 = .ok (.ireturn, 1) := by decide +kernel
theorem dX9_sameAs_0 : decode cX9_sameAs 0 = .ok (.bipush (-5), 2) := by decide +kernel
theorem dX9_sameAs_2 : decode cX9_sameAs 2 = .ok (.istore_n 2, 1) := by decide +kernel
theorem dX9_sameAs_3 : decode cX9_sameAs 3 = .ok (.bipush 63, 2) := by decide +kernel
theorem dX9_sameAs_5 : decode cX9_sameAs 5 = .ok (.istore_n 3, 1) := by decide +kernel
theorem dX9_sameAs_6 : decode cX9_sameAs 6 = .ok (.iload_n 3, 1) := by decide +kernel
theorem dX9_sameAs_7 : decode cX9_sameAs 7 = .ok (.ifCond .lt 33, 3) := by decide +kernel
theorem dX9_sameAs_10 : decode cX9_sameAs 10 = .ok (.iload_n 3, 1) := by decide +kernel
theorem dX9_sameAs_11 : decode cX9_sameAs 11 = .ok (.iload_n 1, 1) := by decide +kernel
theorem dX9_sameAs_12 : decode cX9_sameAs 12 = .ok (.if_icmp .eq 20, 3) := by decide +kernel
theorem dX9_sameAs_15 : decode cX9_sameAs 15 = .ok (.aload_n 0, 1) := by decide +kernel
theorem dX9_sameAs_16 : decode cX9_sameAs 16 = .ok (.iload_n 3, 1) := by decide +kernel
theorem dX9_sameAs_17 : decode cX9_sameAs 17 = .ok (.invokevirtual 71, 3) := by decide +kernel
theorem dX9_sameAs_20 : decode cX9_sameAs 20 = .ok (.aload_n 0, 1) := by decide +kernel
theorem dX9_sameAs_21 : decode cX9_sameAs 21 = .ok (.iload_n 1, 1) := by decide +kernel
theorem dX9_sameAs_22 : decode cX9_sameAs 22 = .ok (.invokevirtual 71, 3) := by decide +kernel
theorem dX9_sameAs_25 : decode cX9_sameAs 25 = .ok (.if_icmp .ne 7, 3) := by decide +kernel
theorem dX9_sameAs_28 : decode cX9_sameAs 28 = .ok (.iload_n 3, 1) := by decide +kernel
theorem dX9_sameAs_29 : decode cX9_sameAs 29 = .ok (.goto 4, 3) := by decide +kernel
theorem dX9_sameAs_32 : decode cX9_sameAs 32 = .ok (.iload_n 2, 1) := by decide +kernel
theorem dX9_sameAs_33 : decode cX9_sameAs 33 = .ok (.istore_n 2, 1) := by decide +kernel
theorem dX9_sameAs_34 : decode cX9_sameAs 34 = .ok (.iinc 3 (-1), 3) := by decide +kernel
theorem dX9_sameAs_37 : decode cX9_sameAs 37 = .ok (.goto (-31), 3) := by decide +kernel
theorem dX9_sameAs_40 : decode cX9_sameAs 40 = .ok (.iload_n 2, 1) := by decide +kernel
theorem dX9_sameAs_41 : decode cX9_sameAs 41 = .ok (.ireturn, 1) := by decide +kernel
theorem dX9_address_0 : decode cX9_address 0 = .ok (.iload_n 1, 1) := by decide +kernel
theorem dX9_address_1 : decode cX9_address 1 = .ok (.invokestatic 68, 3) := by decide +kernel
theorem dX9_address_4 : decode cX9_address 4 = .ok (.ifCond .ne 5, 3) := by decide +kernel
theorem dX9_address_7 : decode cX9_address 7 = .ok (.iconst (-1), 1) := by decide +kernel
theorem dX9_address_8 : decode cX9_address 8 = .ok (.ireturn, 1) := by decide +kernel
theorem dX9_address_9 : decode cX9_address 9 = .ok (.iload_n 2, 1) := by decide +kernel
theorem dX9_address_10 : decode cX9_address 10 = .ok (.tableswitch 58 0 3 #[30, 41, 47, 52], 30) := by decide +kernel
theorem dX9_address_40 : decode cX9_address 40 = .ok (.aload_n 0, 1) := by decide +kernel
theorem dX9_address_41 : decode cX9_address 41 = .ok (.getfield 7, 3) := by decide +kernel
theorem dX9_address_44 : decode cX9_address 44 = .ok (.aload_n 0, 1) := by decide +kernel
theorem dX9_address_45 : decode cX9_address 45 = .ok (.iload_n 1, 1) := by decide +kernel
theorem dX9_address_46 : decode cX9_address 46 = .ok (.invokevirtual 71, 3) := by decide +kernel
theorem dX9_address_49 : decode cX9_address 49 = .ok (.iaload, 1) := by decide +kernel
theorem dX9_address_50 : decode cX9_address 50 = .ok (.ireturn, 1) := by decide +kernel
theorem dX9_address_51 : decode cX9_address 51 = .ok (.aload_n 0, 1) := by decide +kernel
theorem dX9_address_52 : decode cX9_address 52 = .ok (.iload_n 1, 1) := by decide +kernel
theorem dX9_address_53 : decode cX9_address 53 = .ok (.invokevirtual 32, 3) := by decide +kernel
theorem dX9_address_56 : decode cX9_address 56 = .ok (.ireturn, 1) := by decide +kernel
theorem dX9_address_57 : decode cX9_address 57 = .ok (.iload_n 1, 1) := by decide +kernel
theorem dX9_address_58 : decode cX9_address 58 = .ok (.bipush 16, 2) := by decide +kernel
theorem dX9_address_60 : decode cX9_address 60 = .ok (.irem, 1) := by decide +kernel
theorem dX9_address_61 : decode cX9_address 61 = .ok (.ireturn, 1) := by decide +kernel
theorem dX9_address_62 : decode cX9_address 62 = .ok (.aload_n 0, 1) := by decide +kernel
theorem dX9_address_63 : decode cX9_address 63 = .ok (.iload_n 1, 1) := by decide +kernel
theorem dX9_address_64 : decode cX9_address 64 = .ok (.invokevirtual 137, 3) := by decide +kernel
theorem dX9_address_67 : decode cX9_address 67 = .ok (.ireturn, 1) := by decide +kernel
theorem dX9_address_68 : decode cX9_address 68 = .ok (.bipush (-2), 2) := by decide +kernel
theorem dX9_address_70 : decode cX9_address 70 = .ok (.ireturn, 1) := by decide +kernel
theorem dX9_windowsOf_0 : decode cX9_windowsOf 0 = .ok (.iconst 0, 1) := by decide +kernel
theorem dX9_windowsOf_1 : decode cX9_windowsOf 1 = .ok (.istore_n 2, 1) := by decide +kernel
theorem dX9_windowsOf_2 : decode cX9_windowsOf 2 = .ok (.iconst 0, 1) := by decide +kernel
theorem dX9_windowsOf_3 : decode cX9_windowsOf 3 = .ok (.istore_n 3, 1) := by decide +kernel
theorem dX9_windowsOf_4 : decode cX9_windowsOf 4 = .ok (.iload_n 3, 1) := by decide +kernel
theorem dX9_windowsOf_5 : decode cX9_windowsOf 5 = .ok (.iconst 4, 1) := by decide +kernel
theorem dX9_windowsOf_6 : decode cX9_windowsOf 6 = .ok (.if_icmp .ge 32, 3) := by decide +kernel
theorem dX9_windowsOf_9 : decode cX9_windowsOf 9 = .ok (.iload_n 2, 1) := by decide +kernel
theorem dX9_windowsOf_10 : decode cX9_windowsOf 10 = .ok (.aload_n 0, 1) := by decide +kernel
theorem dX9_windowsOf_11 : decode cX9_windowsOf 11 = .ok (.getfield 7, 3) := by decide +kernel
theorem dX9_windowsOf_14 : decode cX9_windowsOf 14 = .ok (.bipush 100, 2) := by decide +kernel
theorem dX9_windowsOf_16 : decode cX9_windowsOf 16 = .ok (.iload_n 3, 1) := by decide +kernel
theorem dX9_windowsOf_17 : decode cX9_windowsOf 17 = .ok (.iadd, 1) := by decide +kernel
theorem dX9_windowsOf_18 : decode cX9_windowsOf 18 = .ok (.iaload, 1) := by decide +kernel
theorem dX9_windowsOf_19 : decode cX9_windowsOf 19 = .ok (.iload_n 1, 1) := by decide +kernel
theorem dX9_windowsOf_20 : decode cX9_windowsOf 20 = .ok (.if_icmp .ne 9, 3) := by decide +kernel
theorem dX9_windowsOf_23 : decode cX9_windowsOf 23 = .ok (.iconst 1, 1) := by decide +kernel
theorem dX9_windowsOf_24 : decode cX9_windowsOf 24 = .ok (.iload_n 3, 1) := by decide +kernel
theorem dX9_windowsOf_25 : decode cX9_windowsOf 25 = .ok (.ishl, 1) := by decide +kernel
theorem dX9_windowsOf_26 : decode cX9_windowsOf 26 = .ok (.goto 4, 3) := by decide +kernel
theorem dX9_windowsOf_29 : decode cX9_windowsOf 29 = .ok (.iconst 0, 1) := by decide +kernel
theorem dX9_windowsOf_30 : decode cX9_windowsOf 30 = .ok (.ior, 1) := by decide +kernel
theorem dX9_windowsOf_31 : decode cX9_windowsOf 31 = .ok (.istore_n 2, 1) := by decide +kernel
theorem dX9_windowsOf_32 : decode cX9_windowsOf 32 = .ok (.iinc 3 1, 3) := by decide +kernel
theorem dX9_windowsOf_35 : decode cX9_windowsOf 35 = .ok (.goto (-31), 3) := by decide +kernel
theorem dX9_windowsOf_38 : decode cX9_windowsOf 38 = .ok (.iload_n 2, 1) := by decide +kernel
theorem dX9_windowsOf_39 : decode cX9_windowsOf 39 = .ok (.ireturn, 1) := by decide +kernel
theorem dX9_filled_0 : decode cX9_filled 0 = .ok (.iconst 0, 1) := by decide +kernel
theorem dX9_filled_1 : decode cX9_filled 1 = .ok (.istore_n 2, 1) := by decide +kernel
theorem dX9_filled_2 : decode cX9_filled 2 = .ok (.iconst 0, 1) := by decide +kernel
theorem dX9_filled_3 : decode cX9_filled 3 = .ok (.istore_n 3, 1) := by decide +kernel
theorem dX9_filled_4 : decode cX9_filled 4 = .ok (.iload_n 3, 1) := by decide +kernel
theorem dX9_filled_5 : decode cX9_filled 5 = .ok (.bipush 12, 2) := by decide +kernel
theorem dX9_filled_7 : decode cX9_filled 7 = .ok (.if_icmp .ge 30, 3) := by decide +kernel
theorem dX9_filled_10 : decode cX9_filled 10 = .ok (.iload_n 2, 1) := by decide +kernel
theorem dX9_filled_11 : decode cX9_filled 11 = .ok (.aload_n 0, 1) := by decide +kernel
theorem dX9_filled_12 : decode cX9_filled 12 = .ok (.getfield 7, 3) := by decide +kernel
theorem dX9_filled_15 : decode cX9_filled 15 = .ok (.iload_n 1, 1) := by decide +kernel
theorem dX9_filled_16 : decode cX9_filled 16 = .ok (.iload_n 3, 1) := by decide +kernel
theorem dX9_filled_17 : decode cX9_filled 17 = .ok (.invokestatic 36, 3) := by decide +kernel
theorem dX9_filled_20 : decode cX9_filled 20 = .ok (.iaload, 1) := by decide +kernel
theorem dX9_filled_21 : decode cX9_filled 21 = .ok (.ifCond .eq 7, 3) := by decide +kernel
theorem dX9_filled_24 : decode cX9_filled 24 = .ok (.iconst 1, 1) := by decide +kernel
theorem dX9_filled_25 : decode cX9_filled 25 = .ok (.goto 4, 3) := by decide +kernel
theorem dX9_filled_28 : decode cX9_filled 28 = .ok (.iconst 0, 1) := by decide +kernel
theorem dX9_filled_29 : decode cX9_filled 29 = .ok (.iadd, 1) := by decide +kernel
theorem dX9_filled_30 : decode cX9_filled 30 = .ok (.istore_n 2, 1) := by decide +kernel
theorem dX9_filled_31 : decode cX9_filled 31 = .ok (.iinc 3 1, 3) := by decide +kernel
theorem dX9_filled_34 : decode cX9_filled 34 = .ok (.goto (-30), 3) := by decide +kernel
theorem dX9_filled_37 : decode cX9_filled 37 = .ok (.iload_n 2, 1) := by decide +kernel
theorem dX9_filled_38 : decode cX9_filled 38 = .ok (.ireturn, 1) := by decide +kernel
theorem dX9_framesTo_0 : decode cX9_framesTo 0 = .ok (.iconst 0, 1) := by decide +kernel
theorem dX9_framesTo_1 : decode cX9_framesTo 1 = .ok (.istore_n 2, 1) := by decide +kernel
theorem dX9_framesTo_2 : decode cX9_framesTo 2 = .ok (.iconst 0, 1) := by decide +kernel
theorem dX9_framesTo_3 : decode cX9_framesTo 3 = .ok (.istore_n 3, 1) := by decide +kernel
theorem dX9_framesTo_4 : decode cX9_framesTo 4 = .ok (.iload_n 3, 1) := by decide +kernel
theorem dX9_framesTo_5 : decode cX9_framesTo 5 = .ok (.aload_n 0, 1) := by decide +kernel
theorem dX9_framesTo_6 : decode cX9_framesTo 6 = .ok (.getfield 7, 3) := by decide +kernel
theorem dX9_framesTo_9 : decode cX9_framesTo 9 = .ok (.bipush 116, 2) := by decide +kernel
theorem dX9_framesTo_11 : decode cX9_framesTo 11 = .ok (.iaload, 1) := by decide +kernel
theorem dX9_framesTo_12 : decode cX9_framesTo 12 = .ok (.if_icmp .ge 34, 3) := by decide +kernel
theorem dX9_framesTo_15 : decode cX9_framesTo 15 = .ok (.iload_n 2, 1) := by decide +kernel
theorem dX9_framesTo_16 : decode cX9_framesTo 16 = .ok (.aload_n 0, 1) := by decide +kernel
theorem dX9_framesTo_17 : decode cX9_framesTo 17 = .ok (.getfield 7, 3) := by decide +kernel
theorem dX9_framesTo_20 : decode cX9_framesTo 20 = .ok (.bipush 117, 2) := by decide +kernel
theorem dX9_framesTo_22 : decode cX9_framesTo 22 = .ok (.iconst 3, 1) := by decide +kernel
theorem dX9_framesTo_23 : decode cX9_framesTo 23 = .ok (.iload_n 3, 1) := by decide +kernel
theorem dX9_framesTo_24 : decode cX9_framesTo 24 = .ok (.imul, 1) := by decide +kernel
theorem dX9_framesTo_25 : decode cX9_framesTo 25 = .ok (.iadd, 1) := by decide +kernel
theorem dX9_framesTo_26 : decode cX9_framesTo 26 = .ok (.iconst 1, 1) := by decide +kernel
theorem dX9_framesTo_27 : decode cX9_framesTo 27 = .ok (.iadd, 1) := by decide +kernel
theorem dX9_framesTo_28 : decode cX9_framesTo 28 = .ok (.iaload, 1) := by decide +kernel
theorem dX9_framesTo_29 : decode cX9_framesTo 29 = .ok (.iload_n 1, 1) := by decide +kernel
theorem dX9_framesTo_30 : decode cX9_framesTo 30 = .ok (.if_icmp .ne 7, 3) := by decide +kernel
theorem dX9_framesTo_33 : decode cX9_framesTo 33 = .ok (.iconst 1, 1) := by decide +kernel
theorem dX9_framesTo_34 : decode cX9_framesTo 34 = .ok (.goto 4, 3) := by decide +kernel
theorem dX9_framesTo_37 : decode cX9_framesTo 37 = .ok (.iconst 0, 1) := by decide +kernel
theorem dX9_framesTo_38 : decode cX9_framesTo 38 = .ok (.iadd, 1) := by decide +kernel
theorem dX9_framesTo_39 : decode cX9_framesTo 39 = .ok (.istore_n 2, 1) := by decide +kernel
theorem dX9_framesTo_40 : decode cX9_framesTo 40 = .ok (.iinc 3 1, 3) := by decide +kernel
theorem dX9_framesTo_43 : decode cX9_framesTo 43 = .ok (.goto (-39), 3) := by decide +kernel
theorem dX9_framesTo_46 : decode cX9_framesTo 46 = .ok (.iload_n 2, 1) := by decide +kernel
theorem dX9_framesTo_47 : decode cX9_framesTo 47 = .ok (.ireturn, 1) := by decide +kernel
theorem dX9_bank_0 : decode cX9_bank 0 = .ok (.iload_n 1, 1) := by decide +kernel
theorem dX9_bank_1 : decode cX9_bank 1 = .ok (.invokestatic 51, 3) := by decide +kernel
theorem dX9_bank_4 : decode cX9_bank 4 = .ok (.ifCond .ne 5, 3) := by decide +kernel
theorem dX9_bank_7 : decode cX9_bank 7 = .ok (.iconst (-1), 1) := by decide +kernel
theorem dX9_bank_8 : decode cX9_bank 8 = .ok (.ireturn, 1) := by decide +kernel
theorem dX9_bank_9 : decode cX9_bank 9 = .ok (.iload_n 2, 1) := by decide +kernel
theorem dX9_bank_10 : decode cX9_bank 10 = .ok (.tableswitch 88 0 5 #[38, 48, 54, 60, 66, 77], 38) := by decide +kernel
theorem dX9_bank_48 : decode cX9_bank 48 = .ok (.aload_n 0, 1) := by decide +kernel
theorem dX9_bank_49 : decode cX9_bank 49 = .ok (.getfield 7, 3) := by decide +kernel
theorem dX9_bank_52 : decode cX9_bank 52 = .ok (.bipush 104, 2) := by decide +kernel
theorem dX9_bank_54 : decode cX9_bank 54 = .ok (.iload_n 1, 1) := by decide +kernel
theorem dX9_bank_55 : decode cX9_bank 55 = .ok (.iadd, 1) := by decide +kernel
theorem dX9_bank_56 : decode cX9_bank 56 = .ok (.iaload, 1) := by decide +kernel
theorem dX9_bank_57 : decode cX9_bank 57 = .ok (.ireturn, 1) := by decide +kernel
theorem dX9_bank_58 : decode cX9_bank 58 = .ok (.aload_n 0, 1) := by decide +kernel
theorem dX9_bank_59 : decode cX9_bank 59 = .ok (.iload_n 1, 1) := by decide +kernel
theorem dX9_bank_60 : decode cX9_bank 60 = .ok (.invokevirtual 140, 3) := by decide +kernel
theorem dX9_bank_63 : decode cX9_bank 63 = .ok (.ireturn, 1) := by decide +kernel
theorem dX9_bank_64 : decode cX9_bank 64 = .ok (.aload_n 0, 1) := by decide +kernel
theorem dX9_bank_65 : decode cX9_bank 65 = .ok (.iload_n 1, 1) := by decide +kernel
theorem dX9_bank_66 : decode cX9_bank 66 = .ok (.invokevirtual 143, 3) := by decide +kernel
theorem dX9_bank_69 : decode cX9_bank 69 = .ok (.ireturn, 1) := by decide +kernel
theorem dX9_bank_70 : decode cX9_bank 70 = .ok (.aload_n 0, 1) := by decide +kernel
theorem dX9_bank_71 : decode cX9_bank 71 = .ok (.iload_n 1, 1) := by decide +kernel
theorem dX9_bank_72 : decode cX9_bank 72 = .ok (.invokevirtual 146, 3) := by decide +kernel
theorem dX9_bank_75 : decode cX9_bank 75 = .ok (.ireturn, 1) := by decide +kernel
theorem dX9_bank_76 : decode cX9_bank 76 = .ok (.aload_n 0, 1) := by decide +kernel
theorem dX9_bank_77 : decode cX9_bank 77 = .ok (.getfield 7, 3) := by decide +kernel
theorem dX9_bank_80 : decode cX9_bank 80 = .ok (.sipush 182, 3) := by decide +kernel
theorem dX9_bank_83 : decode cX9_bank 83 = .ok (.iload_n 1, 1) := by decide +kernel
theorem dX9_bank_84 : decode cX9_bank 84 = .ok (.iadd, 1) := by decide +kernel
theorem dX9_bank_85 : decode cX9_bank 85 = .ok (.iaload, 1) := by decide +kernel
theorem dX9_bank_86 : decode cX9_bank 86 = .ok (.ireturn, 1) := by decide +kernel
theorem dX9_bank_87 : decode cX9_bank 87 = .ok (.aload_n 0, 1) := by decide +kernel
theorem dX9_bank_88 : decode cX9_bank 88 = .ok (.getfield 7, 3) := by decide +kernel
theorem dX9_bank_91 : decode cX9_bank 91 = .ok (.sipush 190, 3) := by decide +kernel
theorem dX9_bank_94 : decode cX9_bank 94 = .ok (.iload_n 1, 1) := by decide +kernel
theorem dX9_bank_95 : decode cX9_bank 95 = .ok (.iadd, 1) := by decide +kernel
theorem dX9_bank_96 : decode cX9_bank 96 = .ok (.iaload, 1) := by decide +kernel
theorem dX9_bank_97 : decode cX9_bank 97 = .ok (.ireturn, 1) := by decide +kernel
theorem dX9_bank_98 : decode cX9_bank 98 = .ok (.bipush (-2), 2) := by decide +kernel
theorem dX9_bank_100 : decode cX9_bank 100 = .ok (.ireturn, 1) := by decide +kernel
theorem dX9_window_0 : decode cX9_window 0 = .ok (.iload_n 1, 1) := by decide +kernel
theorem dX9_window_1 : decode cX9_window 1 = .ok (.invokestatic 65, 3) := by decide +kernel
theorem dX9_window_4 : decode cX9_window 4 = .ok (.ifCond .eq 15, 3) := by decide +kernel
theorem dX9_window_7 : decode cX9_window 7 = .ok (.aload_n 0, 1) := by decide +kernel
theorem dX9_window_8 : decode cX9_window 8 = .ok (.getfield 7, 3) := by decide +kernel
theorem dX9_window_11 : decode cX9_window 11 = .ok (.bipush 100, 2) := by decide +kernel
theorem dX9_window_13 : decode cX9_window 13 = .ok (.iload_n 1, 1) := by decide +kernel
theorem dX9_window_14 : decode cX9_window 14 = .ok (.iadd, 1) := by decide +kernel
theorem dX9_window_15 : decode cX9_window 15 = .ok (.iaload, 1) := by decide +kernel
theorem dX9_window_16 : decode cX9_window 16 = .ok (.goto 4, 3) := by decide +kernel
theorem dX9_window_19 : decode cX9_window 19 = .ok (.iconst (-1), 1) := by decide +kernel
theorem dX9_window_20 : decode cX9_window 20 = .ok (.ireturn, 1) := by decide +kernel
theorem dX9_frame_0 : decode cX9_frame 0 = .ok (.iload_n 1, 1) := by decide +kernel
theorem dX9_frame_1 : decode cX9_frame 1 = .ok (.ifCond .lt 12, 3) := by decide +kernel
theorem dX9_frame_4 : decode cX9_frame 4 = .ok (.iload_n 2, 1) := by decide +kernel
theorem dX9_frame_5 : decode cX9_frame 5 = .ok (.iconst 0, 1) := by decide +kernel
theorem dX9_frame_6 : decode cX9_frame 6 = .ok (.iconst 2, 1) := by decide +kernel
theorem dX9_frame_7 : decode cX9_frame 7 = .ok (.invokestatic 28, 3) := by decide +kernel
theorem dX9_frame_10 : decode cX9_frame 10 = .ok (.ifCond .ne 6, 3) := by decide +kernel
theorem dX9_frame_13 : decode cX9_frame 13 = .ok (.bipush (-2), 2) := by decide +kernel
theorem dX9_frame_15 : decode cX9_frame 15 = .ok (.ireturn, 1) := by decide +kernel
theorem dX9_frame_16 : decode cX9_frame 16 = .ok (.iload_n 1, 1) := by decide +kernel
theorem dX9_frame_17 : decode cX9_frame 17 = .ok (.aload_n 0, 1) := by decide +kernel
theorem dX9_frame_18 : decode cX9_frame 18 = .ok (.getfield 7, 3) := by decide +kernel
theorem dX9_frame_21 : decode cX9_frame 21 = .ok (.bipush 116, 2) := by decide +kernel
theorem dX9_frame_23 : decode cX9_frame 23 = .ok (.iaload, 1) := by decide +kernel
theorem dX9_frame_24 : decode cX9_frame 24 = .ok (.if_icmp .ge 29, 3) := by decide +kernel
theorem dX9_frame_27 : decode cX9_frame 27 = .ok (.aload_n 0, 1) := by decide +kernel
theorem dX9_frame_28 : decode cX9_frame 28 = .ok (.getfield 7, 3) := by decide +kernel
theorem dX9_frame_31 : decode cX9_frame 31 = .ok (.bipush 117, 2) := by decide +kernel
theorem dX9_frame_33 : decode cX9_frame 33 = .ok (.iconst 3, 1) := by decide +kernel
theorem dX9_frame_34 : decode cX9_frame 34 = .ok (.aload_n 0, 1) := by decide +kernel
theorem dX9_frame_35 : decode cX9_frame 35 = .ok (.getfield 7, 3) := by decide +kernel
theorem dX9_frame_38 : decode cX9_frame 38 = .ok (.bipush 116, 2) := by decide +kernel
theorem dX9_frame_40 : decode cX9_frame 40 = .ok (.iaload, 1) := by decide +kernel
theorem dX9_frame_41 : decode cX9_frame 41 = .ok (.iconst 1, 1) := by decide +kernel
theorem dX9_frame_42 : decode cX9_frame 42 = .ok (.isub, 1) := by decide +kernel
theorem dX9_frame_43 : decode cX9_frame 43 = .ok (.iload_n 1, 1) := by decide +kernel
theorem dX9_frame_44 : decode cX9_frame 44 = .ok (.isub, 1) := by decide +kernel
theorem dX9_frame_45 : decode cX9_frame 45 = .ok (.imul, 1) := by decide +kernel
theorem dX9_frame_46 : decode cX9_frame 46 = .ok (.iadd, 1) := by decide +kernel
theorem dX9_frame_47 : decode cX9_frame 47 = .ok (.iload_n 2, 1) := by decide +kernel
theorem dX9_frame_48 : decode cX9_frame 48 = .ok (.iadd, 1) := by decide +kernel
theorem dX9_frame_49 : decode cX9_frame 49 = .ok (.iaload, 1) := by decide +kernel
theorem dX9_frame_50 : decode cX9_frame 50 = .ok (.goto 5, 3) := by decide +kernel
theorem dX9_frame_53 : decode cX9_frame 53 = .ok (.bipush (-5), 2) := by decide +kernel
theorem dX9_frame_55 : decode cX9_frame 55 = .ok (.ireturn, 1) := by decide +kernel
theorem dX9_latest_0 : decode cX9_latest 0 = .ok (.iload_n 1, 1) := by decide +kernel
theorem dX9_latest_1 : decode cX9_latest 1 = .ok (.ifCond .lt 12, 3) := by decide +kernel
theorem dX9_latest_4 : decode cX9_latest 4 = .ok (.iload_n 2, 1) := by decide +kernel
theorem dX9_latest_5 : decode cX9_latest 5 = .ok (.iconst 0, 1) := by decide +kernel
theorem dX9_latest_6 : decode cX9_latest 6 = .ok (.iconst 2, 1) := by decide +kernel
theorem dX9_latest_7 : decode cX9_latest 7 = .ok (.invokestatic 28, 3) := by decide +kernel
theorem dX9_latest_10 : decode cX9_latest 10 = .ok (.ifCond .ne 6, 3) := by decide +kernel
theorem dX9_latest_13 : decode cX9_latest 13 = .ok (.bipush (-2), 2) := by decide +kernel
theorem dX9_latest_15 : decode cX9_latest 15 = .ok (.ireturn, 1) := by decide +kernel
theorem dX9_latest_16 : decode cX9_latest 16 = .ok (.iload_n 1, 1) := by decide +kernel
theorem dX9_latest_17 : decode cX9_latest 17 = .ok (.aload_n 0, 1) := by decide +kernel
theorem dX9_latest_18 : decode cX9_latest 18 = .ok (.getfield 7, 3) := by decide +kernel
theorem dX9_latest_21 : decode cX9_latest 21 = .ok (.sipush 141, 3) := by decide +kernel
theorem dX9_latest_24 : decode cX9_latest 24 = .ok (.iaload, 1) := by decide +kernel
theorem dX9_latest_25 : decode cX9_latest 25 = .ok (.if_icmp .ge 20, 3) := by decide +kernel
theorem dX9_latest_28 : decode cX9_latest 28 = .ok (.aload_n 0, 1) := by decide +kernel
theorem dX9_latest_29 : decode cX9_latest 29 = .ok (.getfield 7, 3) := by decide +kernel
theorem dX9_latest_32 : decode cX9_latest 32 = .ok (.sipush 142, 3) := by decide +kernel
theorem dX9_latest_35 : decode cX9_latest 35 = .ok (.iconst 3, 1) := by decide +kernel
theorem dX9_latest_36 : decode cX9_latest 36 = .ok (.iload_n 1, 1) := by decide +kernel
theorem dX9_latest_37 : decode cX9_latest 37 = .ok (.imul, 1) := by decide +kernel
theorem dX9_latest_38 : decode cX9_latest 38 = .ok (.iadd, 1) := by decide +kernel
theorem dX9_latest_39 : decode cX9_latest 39 = .ok (.iload_n 2, 1) := by decide +kernel
theorem dX9_latest_40 : decode cX9_latest 40 = .ok (.iadd, 1) := by decide +kernel
theorem dX9_latest_41 : decode cX9_latest 41 = .ok (.iaload, 1) := by decide +kernel
theorem dX9_latest_42 : decode cX9_latest 42 = .ok (.goto 5, 3) := by decide +kernel
theorem dX9_latest_45 : decode cX9_latest 45 = .ok (.bipush (-5), 2) := by decide +kernel
theorem dX9_latest_47 : decode cX9_latest 47 = .ok (.ireturn, 1) := by decide +kernel
theorem dX9_next_0 : decode cX9_next 0 = .ok (.iload_n 1, 1) := by decide +kernel
theorem dX9_next_1 : decode cX9_next 1 = .ok (.iconst 0, 1) := by decide +kernel
theorem dX9_next_2 : decode cX9_next 2 = .ok (.iconst 2, 1) := by decide +kernel
theorem dX9_next_3 : decode cX9_next 3 = .ok (.invokestatic 28, 3) := by decide +kernel
theorem dX9_next_6 : decode cX9_next 6 = .ok (.ifCond .ne 6, 3) := by decide +kernel
theorem dX9_next_9 : decode cX9_next 9 = .ok (.bipush (-2), 2) := by decide +kernel
theorem dX9_next_11 : decode cX9_next 11 = .ok (.ireturn, 1) := by decide +kernel
theorem dX9_next_12 : decode cX9_next 12 = .ok (.aload_n 0, 1) := by decide +kernel
theorem dX9_next_13 : decode cX9_next 13 = .ok (.getfield 7, 3) := by decide +kernel
theorem dX9_next_16 : decode cX9_next 16 = .ok (.bipush 115, 2) := by decide +kernel
theorem dX9_next_18 : decode cX9_next 18 = .ok (.iaload, 1) := by decide +kernel
theorem dX9_next_19 : decode cX9_next 19 = .ok (.ifCond .le 6, 3) := by decide +kernel
theorem dX9_next_22 : decode cX9_next 22 = .ok (.bipush (-5), 2) := by decide +kernel
theorem dX9_next_24 : decode cX9_next 24 = .ok (.ireturn, 1) := by decide +kernel
theorem dX9_next_25 : decode cX9_next 25 = .ok (.aload_n 0, 1) := by decide +kernel
theorem dX9_next_26 : decode cX9_next 26 = .ok (.getfield 7, 3) := by decide +kernel
theorem dX9_next_29 : decode cX9_next 29 = .ok (.aload_n 0, 1) := by decide +kernel
theorem dX9_next_30 : decode cX9_next 30 = .ok (.aload_n 0, 1) := by decide +kernel
theorem dX9_next_31 : decode cX9_next 31 = .ok (.getfield 7, 3) := by decide +kernel
theorem dX9_next_34 : decode cX9_next 34 = .ok (.bipush 114, 2) := by decide +kernel
theorem dX9_next_36 : decode cX9_next 36 = .ok (.iaload, 1) := by decide +kernel
theorem dX9_next_37 : decode cX9_next 37 = .ok (.invokevirtual 71, 3) := by decide +kernel
theorem dX9_next_40 : decode cX9_next 40 = .ok (.iaload, 1) := by decide +kernel
theorem dX9_next_41 : decode cX9_next 41 = .ok (.istore_n 2, 1) := by decide +kernel
theorem dX9_next_42 : decode cX9_next 42 = .ok (.aload_n 0, 1) := by decide +kernel
theorem dX9_next_43 : decode cX9_next 43 = .ok (.invokevirtual 149, 3) := by decide +kernel
theorem dX9_next_46 : decode cX9_next 46 = .ok (.aload_n 0, 1) := by decide +kernel
theorem dX9_next_47 : decode cX9_next 47 = .ok (.invokevirtual 98, 3) := by decide +kernel
theorem dX9_next_50 : decode cX9_next 50 = .ok (.iload_n 1, 1) := by decide +kernel
theorem dX9_next_51 : decode cX9_next 51 = .ok (.ifCond .ne 7, 3) := by decide +kernel
theorem dX9_next_54 : decode cX9_next 54 = .ok (.iload_n 2, 1) := by decide +kernel
theorem dX9_next_55 : decode cX9_next 55 = .ok (.goto 25, 3) := by decide +kernel
theorem dX9_next_58 : decode cX9_next 58 = .ok (.iload_n 1, 1) := by decide +kernel
theorem dX9_next_59 : decode cX9_next 59 = .ok (.iconst 1, 1) := by decide +kernel
theorem dX9_next_60 : decode cX9_next 60 = .ok (.if_icmp .ne 13, 3) := by decide +kernel
theorem dX9_next_63 : decode cX9_next 63 = .ok (.aload_n 0, 1) := by decide +kernel
theorem dX9_next_64 : decode cX9_next 64 = .ok (.getfield 7, 3) := by decide +kernel
theorem dX9_next_67 : decode cX9_next 67 = .ok (.bipush 115, 2) := by decide +kernel
theorem dX9_next_69 : decode cX9_next 69 = .ok (.iaload, 1) := by decide +kernel
theorem dX9_next_70 : decode cX9_next 70 = .ok (.goto 10, 3) := by decide +kernel
theorem dX9_next_73 : decode cX9_next 73 = .ok (.aload_n 0, 1) := by decide +kernel
theorem dX9_next_74 : decode cX9_next 74 = .ok (.getfield 7, 3) := by decide +kernel
theorem dX9_next_77 : decode cX9_next 77 = .ok (.bipush 114, 2) := by decide +kernel
theorem dX9_next_79 : decode cX9_next 79 = .ok (.iaload, 1) := by decide +kernel
theorem dX9_next_80 : decode cX9_next 80 = .ok (.istore_n 3, 1) := by decide +kernel
theorem dX9_next_81 : decode cX9_next 81 = .ok (.aload_n 0, 1) := by decide +kernel
theorem dX9_next_82 : decode cX9_next 82 = .ok (.invokevirtual 152, 3) := by decide +kernel
theorem dX9_next_85 : decode cX9_next 85 = .ok (.iload_n 3, 1) := by decide +kernel
theorem dX9_next_86 : decode cX9_next 86 = .ok (.ireturn, 1) := by decide +kernel
theorem dX9_unlikeCells_0 : decode cX9_unlikeCells 0 = .ok (.iconst 0, 1) := by decide +kernel
theorem dX9_unlikeCells_1 : decode cX9_unlikeCells 1 = .ok (.istore_n 1, 1) := by decide +kernel
theorem dX9_unlikeCells_2 : decode cX9_unlikeCells 2 = .ok (.iconst 0, 1) := by decide +kernel
theorem dX9_unlikeCells_3 : decode cX9_unlikeCells 3 = .ok (.istore_n 2, 1) := by decide +kernel
theorem dX9_unlikeCells_4 : decode cX9_unlikeCells 4 = .ok (.iload_n 2, 1) := by decide +kernel
theorem dX9_unlikeCells_5 : decode cX9_unlikeCells 5 = .ok (.bipush 100, 2) := by decide +kernel
theorem dX9_unlikeCells_7 : decode cX9_unlikeCells 7 = .ok (.if_icmp .ge 32, 3) := by decide +kernel
theorem dX9_unlikeCells_10 : decode cX9_unlikeCells 10 = .ok (.iload_n 1, 1) := by decide +kernel
theorem dX9_unlikeCells_11 : decode cX9_unlikeCells 11 = .ok (.aload_n 0, 1) := by decide +kernel
theorem dX9_unlikeCells_12 : decode cX9_unlikeCells 12 = .ok (.getfield 7, 3) := by decide +kernel
theorem dX9_unlikeCells_15 : decode cX9_unlikeCells 15 = .ok (.iload_n 2, 1) := by decide +kernel
theorem dX9_unlikeCells_16 : decode cX9_unlikeCells 16 = .ok (.iaload, 1) := by decide +kernel
theorem dX9_unlikeCells_17 : decode cX9_unlikeCells 17 = .ok (.aload_n 0, 1) := by decide +kernel
theorem dX9_unlikeCells_18 : decode cX9_unlikeCells 18 = .ok (.getfield 13, 3) := by decide +kernel
theorem dX9_unlikeCells_21 : decode cX9_unlikeCells 21 = .ok (.iload_n 2, 1) := by decide +kernel
theorem dX9_unlikeCells_22 : decode cX9_unlikeCells 22 = .ok (.iaload, 1) := by decide +kernel
theorem dX9_unlikeCells_23 : decode cX9_unlikeCells 23 = .ok (.if_icmp .eq 7, 3) := by decide +kernel
theorem dX9_unlikeCells_26 : decode cX9_unlikeCells 26 = .ok (.iconst 1, 1) := by decide +kernel
theorem dX9_unlikeCells_27 : decode cX9_unlikeCells 27 = .ok (.goto 4, 3) := by decide +kernel
theorem dX9_unlikeCells_30 : decode cX9_unlikeCells 30 = .ok (.iconst 0, 1) := by decide +kernel
theorem dX9_unlikeCells_31 : decode cX9_unlikeCells 31 = .ok (.iadd, 1) := by decide +kernel
theorem dX9_unlikeCells_32 : decode cX9_unlikeCells 32 = .ok (.istore_n 1, 1) := by decide +kernel
theorem dX9_unlikeCells_33 : decode cX9_unlikeCells 33 = .ok (.iinc 2 1, 3) := by decide +kernel
theorem dX9_unlikeCells_36 : decode cX9_unlikeCells 36 = .ok (.goto (-32), 3) := by decide +kernel
theorem dX9_unlikeCells_39 : decode cX9_unlikeCells 39 = .ok (.iload_n 1, 1) := by decide +kernel
theorem dX9_unlikeCells_40 : decode cX9_unlikeCells 40 = .ok (.ireturn, 1) := by decide +kernel
theorem dX9_ifRun_0 : decode cX9_ifRun 0 = .ok (.iload_n 1, 1) := by decide +kernel
theorem dX9_ifRun_1 : decode cX9_ifRun 1 = .ok (.iconst 1, 1) := by decide +kernel
theorem dX9_ifRun_2 : decode cX9_ifRun 2 = .ok (.sipush 999, 3) := by decide +kernel
theorem dX9_ifRun_5 : decode cX9_ifRun 5 = .ok (.invokestatic 28, 3) := by decide +kernel
theorem dX9_ifRun_8 : decode cX9_ifRun 8 = .ok (.ifCond .eq 12, 3) := by decide +kernel
theorem dX9_ifRun_11 : decode cX9_ifRun 11 = .ok (.iload_n 2, 1) := by decide +kernel
theorem dX9_ifRun_12 : decode cX9_ifRun 12 = .ok (.iconst 0, 1) := by decide +kernel
theorem dX9_ifRun_13 : decode cX9_ifRun 13 = .ok (.iconst 4, 1) := by decide +kernel
theorem dX9_ifRun_14 : decode cX9_ifRun 14 = .ok (.invokestatic 28, 3) := by decide +kernel
theorem dX9_ifRun_17 : decode cX9_ifRun 17 = .ok (.ifCond .ne 6, 3) := by decide +kernel
theorem dX9_ifRun_20 : decode cX9_ifRun 20 = .ok (.bipush (-2), 2) := by decide +kernel
theorem dX9_ifRun_22 : decode cX9_ifRun 22 = .ok (.ireturn, 1) := by decide +kernel
theorem dX9_ifRun_23 : decode cX9_ifRun 23 = .ok (.aload_n 0, 1) := by decide +kernel
theorem dX9_ifRun_24 : decode cX9_ifRun 24 = .ok (.getfield 7, 3) := by decide +kernel
theorem dX9_ifRun_27 : decode cX9_ifRun 27 = .ok (.bipush 115, 2) := by decide +kernel
theorem dX9_ifRun_29 : decode cX9_ifRun 29 = .ok (.iaload, 1) := by decide +kernel
theorem dX9_ifRun_30 : decode cX9_ifRun 30 = .ok (.ifCond .le 6, 3) := by decide +kernel
theorem dX9_ifRun_33 : decode cX9_ifRun 33 = .ok (.bipush (-4), 2) := by decide +kernel
theorem dX9_ifRun_35 : decode cX9_ifRun 35 = .ok (.ireturn, 1) := by decide +kernel
theorem dX9_ifRun_36 : decode cX9_ifRun 36 = .ok (.aload_n 0, 1) := by decide +kernel
theorem dX9_ifRun_37 : decode cX9_ifRun 37 = .ok (.invokevirtual 149, 3) := by decide +kernel
theorem dX9_ifRun_40 : decode cX9_ifRun 40 = .ok (.aload_n 0, 1) := by decide +kernel
theorem dX9_ifRun_41 : decode cX9_ifRun 41 = .ok (.iload_n 1, 1) := by decide +kernel
theorem dX9_ifRun_42 : decode cX9_ifRun 42 = .ok (.invokevirtual 102, 3) := by decide +kernel
theorem dX9_ifRun_45 : decode cX9_ifRun 45 = .ok (.istore_n 3, 1) := by decide +kernel
theorem dX9_ifRun_46 : decode cX9_ifRun 46 = .ok (.iload_n 2, 1) := by decide +kernel
theorem dX9_ifRun_47 : decode cX9_ifRun 47 = .ok (.ifCond .ne 7, 3) := by decide +kernel
theorem dX9_ifRun_50 : decode cX9_ifRun 50 = .ok (.iload_n 3, 1) := by decide +kernel
theorem dX9_ifRun_51 : decode cX9_ifRun 51 = .ok (.goto 52, 3) := by decide +kernel
theorem dX9_ifRun_54 : decode cX9_ifRun 54 = .ok (.iload_n 2, 1) := by decide +kernel
theorem dX9_ifRun_55 : decode cX9_ifRun 55 = .ok (.iconst 1, 1) := by decide +kernel
theorem dX9_ifRun_56 : decode cX9_ifRun 56 = .ok (.if_icmp .ne 13, 3) := by decide +kernel
theorem dX9_ifRun_59 : decode cX9_ifRun 59 = .ok (.aload_n 0, 1) := by decide +kernel
theorem dX9_ifRun_60 : decode cX9_ifRun 60 = .ok (.getfield 7, 3) := by decide +kernel
theorem dX9_ifRun_63 : decode cX9_ifRun 63 = .ok (.bipush 115, 2) := by decide +kernel
theorem dX9_ifRun_65 : decode cX9_ifRun 65 = .ok (.iaload, 1) := by decide +kernel
theorem dX9_ifRun_66 : decode cX9_ifRun 66 = .ok (.goto 37, 3) := by decide +kernel
theorem dX9_ifRun_69 : decode cX9_ifRun 69 = .ok (.iload_n 2, 1) := by decide +kernel
theorem dX9_ifRun_70 : decode cX9_ifRun 70 = .ok (.iconst 2, 1) := by decide +kernel
theorem dX9_ifRun_71 : decode cX9_ifRun 71 = .ok (.if_icmp .ne 13, 3) := by decide +kernel
theorem dX9_ifRun_74 : decode cX9_ifRun 74 = .ok (.aload_n 0, 1) := by decide +kernel
theorem dX9_ifRun_75 : decode cX9_ifRun 75 = .ok (.getfield 7, 3) := by decide +kernel
theorem dX9_ifRun_78 : decode cX9_ifRun 78 = .ok (.bipush 113, 2) := by decide +kernel
theorem dX9_ifRun_80 : decode cX9_ifRun 80 = .ok (.iaload, 1) := by decide +kernel
theorem dX9_ifRun_81 : decode cX9_ifRun 81 = .ok (.goto 22, 3) := by decide +kernel
theorem dX9_ifRun_84 : decode cX9_ifRun 84 = .ok (.iload_n 2, 1) := by decide +kernel
theorem dX9_ifRun_85 : decode cX9_ifRun 85 = .ok (.iconst 3, 1) := by decide +kernel
theorem dX9_ifRun_86 : decode cX9_ifRun 86 = .ok (.if_icmp .ne 13, 3) := by decide +kernel

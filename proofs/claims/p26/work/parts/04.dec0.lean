theorem dX0_init_0 : decode cX0_init 0 = .ok (.aload_n 0, 1) := by decide +kernel
theorem dX0_init_1 : decode cX0_init 1 = .ok (.invokespecial 3, 3) := by decide +kernel
theorem dX0_init_4 : decode cX0_init 4 = .ok (.aload_n 0, 1) := by decide +kernel
theorem dX0_init_5 : decode cX0_init 5 = .ok (.new 9, 3) := by decide +kernel
theorem dX0_init_8 : decode cX0_init 8 = .ok (.dup, 1) := by decide +kernel
theorem dX0_init_9 : decode cX0_init 9 = .ok (.bipush 100, 2) := by decide +kernel
theorem dX0_init_11 : decode cX0_init 11 = .ok (.invokespecial 11, 3) := by decide +kernel
theorem dX0_init_14 : decode cX0_init 14 = .ok (.putfield 14, 3) := by decide +kernel
theorem dX0_init_17 : decode cX0_init 17 = .ok (.aload_n 0, 1) := by decide +kernel
theorem dX0_init_18 : decode cX0_init 18 = .ok (.new 9, 3) := by decide +kernel
theorem dX0_init_21 : decode cX0_init 21 = .ok (.dup, 1) := by decide +kernel
theorem dX0_init_22 : decode cX0_init 22 = .ok (.bipush 8, 2) := by decide +kernel
theorem dX0_init_24 : decode cX0_init 24 = .ok (.invokespecial 11, 3) := by decide +kernel
theorem dX0_init_27 : decode cX0_init 27 = .ok (.putfield 20, 3) := by decide +kernel
theorem dX0_init_30 : decode cX0_init 30 = .ok (.aload_n 0, 1) := by decide +kernel
theorem dX0_init_31 : decode cX0_init 31 = .ok (.new 9, 3) := by decide +kernel
theorem dX0_init_34 : decode cX0_init 34 = .ok (.dup, 1) := by decide +kernel
theorem dX0_init_35 : decode cX0_init 35 = .ok (.iconst 4, 1) := by decide +kernel
theorem dX0_init_36 : decode cX0_init 36 = .ok (.invokespecial 11, 3) := by decide +kernel
theorem dX0_init_39 : decode cX0_init 39 = .ok (.putfield 23, 3) := by decide +kernel
theorem dX0_init_42 : decode cX0_init 42 = .ok (.aload_n 0, 1) := by decide +kernel
theorem dX0_init_43 : decode cX0_init 43 = .ok (.new 9, 3) := by decide +kernel
theorem dX0_init_46 : decode cX0_init 46 = .ok (.dup, 1) := by decide +kernel
theorem dX0_init_47 : decode cX0_init 47 = .ok (.bipush 8, 2) := by decide +kernel
theorem dX0_init_49 : decode cX0_init 49 = .ok (.invokespecial 11, 3) := by decide +kernel
theorem dX0_init_52 : decode cX0_init 52 = .ok (.putfield 26, 3) := by decide +kernel
theorem dX0_init_55 : decode cX0_init 55 = .ok (.aload_n 0, 1) := by decide +kernel
theorem dX0_init_56 : decode cX0_init 56 = .ok (.new 9, 3) := by decide +kernel
theorem dX0_init_59 : decode cX0_init 59 = .ok (.dup, 1) := by decide +kernel
theorem dX0_init_60 : decode cX0_init 60 = .ok (.bipush 8, 2) := by decide +kernel
theorem dX0_init_62 : decode cX0_init 62 = .ok (.invokespecial 11, 3) := by decide +kernel
theorem dX0_init_65 : decode cX0_init 65 = .ok (.putfield 29, 3) := by decide +kernel
theorem dX0_init_68 : decode cX0_init 68 = .ok (.iconst 0, 1) := by decide +kernel
theorem dX0_init_69 : decode cX0_init 69 = .ok (.istore_n 1, 1) := by decide +kernel
theorem dX0_init_70 : decode cX0_init 70 = .ok (.iload_n 1, 1) := by decide +kernel
theorem dX0_init_71 : decode cX0_init 71 = .ok (.iconst 4, 1) := by decide +kernel
theorem dX0_init_72 : decode cX0_init 72 = .ok (.if_icmp .ge 18, 3) := by decide +kernel
theorem dX0_init_75 : decode cX0_init 75 = .ok (.aload_n 0, 1) := by decide +kernel
theorem dX0_init_76 : decode cX0_init 76 = .ok (.getfield 23, 3) := by decide +kernel
theorem dX0_init_79 : decode cX0_init 79 = .ok (.iload_n 1, 1) := by decide +kernel
theorem dX0_init_80 : decode cX0_init 80 = .ok (.iload_n 1, 1) := by decide +kernel
theorem dX0_init_81 : decode cX0_init 81 = .ok (.invokevirtual 32, 3) := by decide +kernel
theorem dX0_init_84 : decode cX0_init 84 = .ok (.iinc 1 1, 3) := by decide +kernel
theorem dX0_init_87 : decode cX0_init 87 = .ok (.goto (-17), 3) := by decide +kernel
theorem dX0_init_90 : decode cX0_init 90 = .ok (.return_, 1) := by decide +kernel
theorem dX0_copyFrom_0 : decode cX0_copyFrom 0 = .ok (.aload_n 0, 1) := by decide +kernel
theorem dX0_copyFrom_1 : decode cX0_copyFrom 1 = .ok (.getfield 14, 3) := by decide +kernel
theorem dX0_copyFrom_4 : decode cX0_copyFrom 4 = .ok (.aload_n 1, 1) := by decide +kernel
theorem dX0_copyFrom_5 : decode cX0_copyFrom 5 = .ok (.getfield 14, 3) := by decide +kernel
theorem dX0_copyFrom_8 : decode cX0_copyFrom 8 = .ok (.invokevirtual 36, 3) := by decide +kernel
theorem dX0_copyFrom_11 : decode cX0_copyFrom 11 = .ok (.aload_n 0, 1) := by decide +kernel
theorem dX0_copyFrom_12 : decode cX0_copyFrom 12 = .ok (.getfield 20, 3) := by decide +kernel
theorem dX0_copyFrom_15 : decode cX0_copyFrom 15 = .ok (.aload_n 1, 1) := by decide +kernel
theorem dX0_copyFrom_16 : decode cX0_copyFrom 16 = .ok (.getfield 20, 3) := by decide +kernel
theorem dX0_copyFrom_19 : decode cX0_copyFrom 19 = .ok (.invokevirtual 36, 3) := by decide +kernel
theorem dX0_copyFrom_22 : decode cX0_copyFrom 22 = .ok (.aload_n 0, 1) := by decide +kernel
theorem dX0_copyFrom_23 : decode cX0_copyFrom 23 = .ok (.getfield 23, 3) := by decide +kernel
theorem dX0_copyFrom_26 : decode cX0_copyFrom 26 = .ok (.aload_n 1, 1) := by decide +kernel
theorem dX0_copyFrom_27 : decode cX0_copyFrom 27 = .ok (.getfield 23, 3) := by decide +kernel
theorem dX0_copyFrom_30 : decode cX0_copyFrom 30 = .ok (.invokevirtual 36, 3) := by decide +kernel
theorem dX0_copyFrom_33 : decode cX0_copyFrom 33 = .ok (.aload_n 0, 1) := by decide +kernel
theorem dX0_copyFrom_34 : decode cX0_copyFrom 34 = .ok (.getfield 26, 3) := by decide +kernel
theorem dX0_copyFrom_37 : decode cX0_copyFrom 37 = .ok (.aload_n 1, 1) := by decide +kernel
theorem dX0_copyFrom_38 : decode cX0_copyFrom 38 = .ok (.getfield 26, 3) := by decide +kernel
theorem dX0_copyFrom_41 : decode cX0_copyFrom 41 = .ok (.invokevirtual 36, 3) := by decide +kernel
theorem dX0_copyFrom_44 : decode cX0_copyFrom 44 = .ok (.aload_n 0, 1) := by decide +kernel
theorem dX0_copyFrom_45 : decode cX0_copyFrom 45 = .ok (.getfield 29, 3) := by decide +kernel
theorem dX0_copyFrom_48 : decode cX0_copyFrom 48 = .ok (.aload_n 1, 1) := by decide +kernel
theorem dX0_copyFrom_49 : decode cX0_copyFrom 49 = .ok (.getfield 29, 3) := by decide +kernel
theorem dX0_copyFrom_52 : decode cX0_copyFrom 52 = .ok (.invokevirtual 36, 3) := by decide +kernel
theorem dX0_copyFrom_55 : decode cX0_copyFrom 55 = .ok (.return_, 1) := by decide +kernel
theorem dX0_numberIn_0 : decode cX0_numberIn 0 = .ok (.aload_n 0, 1) := by decide +kernel
theorem dX0_numberIn_1 : decode cX0_numberIn 1 = .ok (.getfield 14, 3) := by decide +kernel
theorem dX0_numberIn_4 : decode cX0_numberIn 4 = .ok (.iload_n 1, 1) := by decide +kernel
theorem dX0_numberIn_5 : decode cX0_numberIn 5 = .ok (.iload_n 2, 1) := by decide +kernel
theorem dX0_numberIn_6 : decode cX0_numberIn 6 = .ok (.invokestatic 40, 3) := by decide +kernel
theorem dX0_numberIn_9 : decode cX0_numberIn 9 = .ok (.invokevirtual 44, 3) := by decide +kernel
theorem dX0_numberIn_12 : decode cX0_numberIn 12 = .ok (.ireturn, 1) := by decide +kernel
theorem dX0_fill_0 : decode cX0_fill 0 = .ok (.aload_n 0, 1) := by decide +kernel
theorem dX0_fill_1 : decode cX0_fill 1 = .ok (.getfield 14, 3) := by decide +kernel
theorem dX0_fill_4 : decode cX0_fill 4 = .ok (.iload_n 1, 1) := by decide +kernel
theorem dX0_fill_5 : decode cX0_fill 5 = .ok (.iload_n 2, 1) := by decide +kernel
theorem dX0_fill_6 : decode cX0_fill 6 = .ok (.invokestatic 40, 3) := by decide +kernel
theorem dX0_fill_9 : decode cX0_fill 9 = .ok (.iload_n 3, 1) := by decide +kernel
theorem dX0_fill_10 : decode cX0_fill 10 = .ok (.invokevirtual 32, 3) := by decide +kernel
theorem dX0_fill_13 : decode cX0_fill 13 = .ok (.return_, 1) := by decide +kernel
theorem dX0_bankAt_0 : decode cX0_bankAt 0 = .ok (.aload_n 0, 1) := by decide +kernel
theorem dX0_bankAt_1 : decode cX0_bankAt 1 = .ok (.getfield 23, 3) := by decide +kernel
theorem dX0_bankAt_4 : decode cX0_bankAt 4 = .ok (.iload_n 1, 1) := by decide +kernel
theorem dX0_bankAt_5 : decode cX0_bankAt 5 = .ok (.bipush 16, 2) := by decide +kernel
theorem dX0_bankAt_7 : decode cX0_bankAt 7 = .ok (.idiv, 1) := by decide +kernel
theorem dX0_bankAt_8 : decode cX0_bankAt 8 = .ok (.invokevirtual 44, 3) := by decide +kernel
theorem dX0_bankAt_11 : decode cX0_bankAt 11 = .ok (.ireturn, 1) := by decide +kernel
theorem dX0_numberAt_0 : decode cX0_numberAt 0 = .ok (.aload_n 0, 1) := by decide +kernel
theorem dX0_numberAt_1 : decode cX0_numberAt 1 = .ok (.aload_n 0, 1) := by decide +kernel
theorem dX0_numberAt_2 : decode cX0_numberAt 2 = .ok (.iload_n 1, 1) := by decide +kernel
theorem dX0_numberAt_3 : decode cX0_numberAt 3 = .ok (.invokevirtual 48, 3) := by decide +kernel
theorem dX0_numberAt_6 : decode cX0_numberAt 6 = .ok (.iload_n 1, 1) := by decide +kernel
theorem dX0_numberAt_7 : decode cX0_numberAt 7 = .ok (.bipush 16, 2) := by decide +kernel
theorem dX0_numberAt_9 : decode cX0_numberAt 9 = .ok (.irem, 1) := by decide +kernel
theorem dX0_numberAt_10 : decode cX0_numberAt 10 = .ok (.invokevirtual 51, 3) := by decide +kernel
theorem dX0_numberAt_13 : decode cX0_numberAt 13 = .ok (.ireturn, 1) := by decide +kernel
theorem dX0_storeUnlessAlone_0 : decode cX0_storeUnlessAlone 0 = .ok (.aload_n 0, 1) := by decide +kernel
theorem dX0_storeUnlessAlone_1 : decode cX0_storeUnlessAlone 1 = .ok (.iload_n 1, 1) := by decide +kernel
theorem dX0_storeUnlessAlone_2 : decode cX0_storeUnlessAlone 2 = .ok (.invokevirtual 48, 3) := by decide +kernel
theorem dX0_storeUnlessAlone_5 : decode cX0_storeUnlessAlone 5 = .ok (.istore_n 3, 1) := by decide +kernel
theorem dX0_storeUnlessAlone_6 : decode cX0_storeUnlessAlone 6 = .ok (.aload_n 0, 1) := by decide +kernel
theorem dX0_storeUnlessAlone_7 : decode cX0_storeUnlessAlone 7 = .ok (.iload_n 3, 1) := by decide +kernel
theorem dX0_storeUnlessAlone_8 : decode cX0_storeUnlessAlone 8 = .ok (.invokevirtual 54, 3) := by decide +kernel
theorem dX0_storeUnlessAlone_11 : decode cX0_storeUnlessAlone 11 = .ok (.ifCond .eq 23, 3) := by decide +kernel
theorem dX0_storeUnlessAlone_14 : decode cX0_storeUnlessAlone 14 = .ok (.aload_n 0, 1) := by decide +kernel
theorem dX0_storeUnlessAlone_15 : decode cX0_storeUnlessAlone 15 = .ok (.getfield 29, 3) := by decide +kernel
theorem dX0_storeUnlessAlone_18 : decode cX0_storeUnlessAlone 18 = .ok (.iload_n 3, 1) := by decide +kernel
theorem dX0_storeUnlessAlone_19 : decode cX0_storeUnlessAlone 19 = .ok (.aload_n 0, 1) := by decide +kernel
theorem dX0_storeUnlessAlone_20 : decode cX0_storeUnlessAlone 20 = .ok (.getfield 29, 3) := by decide +kernel
theorem dX0_storeUnlessAlone_23 : decode cX0_storeUnlessAlone 23 = .ok (.iload_n 3, 1) := by decide +kernel
theorem dX0_storeUnlessAlone_24 : decode cX0_storeUnlessAlone 24 = .ok (.invokevirtual 44, 3) := by decide +kernel
theorem dX0_storeUnlessAlone_27 : decode cX0_storeUnlessAlone 27 = .ok (.iconst 1, 1) := by decide +kernel
theorem dX0_storeUnlessAlone_28 : decode cX0_storeUnlessAlone 28 = .ok (.iadd, 1) := by decide +kernel
theorem dX0_storeUnlessAlone_29 : decode cX0_storeUnlessAlone 29 = .ok (.invokevirtual 32, 3) := by decide +kernel
theorem dX0_storeUnlessAlone_32 : decode cX0_storeUnlessAlone 32 = .ok (.iconst 0, 1) := by decide +kernel
theorem dX0_storeUnlessAlone_33 : decode cX0_storeUnlessAlone 33 = .ok (.ireturn, 1) := by decide +kernel
theorem dX0_storeUnlessAlone_34 : decode cX0_storeUnlessAlone 34 = .ok (.aload_n 0, 1) := by decide +kernel
theorem dX0_storeUnlessAlone_35 : decode cX0_storeUnlessAlone 35 = .ok (.iload_n 3, 1) := by decide +kernel
theorem dX0_storeUnlessAlone_36 : decode cX0_storeUnlessAlone 36 = .ok (.iload_n 1, 1) := by decide +kernel
theorem dX0_storeUnlessAlone_37 : decode cX0_storeUnlessAlone 37 = .ok (.bipush 16, 2) := by decide +kernel
theorem dX0_storeUnlessAlone_39 : decode cX0_storeUnlessAlone 39 = .ok (.irem, 1) := by decide +kernel
theorem dX0_storeUnlessAlone_40 : decode cX0_storeUnlessAlone 40 = .ok (.iload_n 2, 1) := by decide +kernel
theorem dX0_storeUnlessAlone_41 : decode cX0_storeUnlessAlone 41 = .ok (.invokevirtual 58, 3) := by decide +kernel
theorem dX0_storeUnlessAlone_44 : decode cX0_storeUnlessAlone 44 = .ok (.aload_n 0, 1) := by decide +kernel
theorem dX0_storeUnlessAlone_45 : decode cX0_storeUnlessAlone 45 = .ok (.getfield 26, 3) := by decide +kernel
theorem dX0_storeUnlessAlone_48 : decode cX0_storeUnlessAlone 48 = .ok (.iload_n 3, 1) := by decide +kernel
theorem dX0_storeUnlessAlone_49 : decode cX0_storeUnlessAlone 49 = .ok (.aload_n 0, 1) := by decide +kernel
theorem dX0_storeUnlessAlone_50 : decode cX0_storeUnlessAlone 50 = .ok (.getfield 26, 3) := by decide +kernel
theorem dX0_storeUnlessAlone_53 : decode cX0_storeUnlessAlone 53 = .ok (.iload_n 3, 1) := by decide +kernel
theorem dX0_storeUnlessAlone_54 : decode cX0_storeUnlessAlone 54 = .ok (.invokevirtual 44, 3) := by decide +kernel
theorem dX0_storeUnlessAlone_57 : decode cX0_storeUnlessAlone 57 = .ok (.iconst 1, 1) := by decide +kernel
theorem dX0_storeUnlessAlone_58 : decode cX0_storeUnlessAlone 58 = .ok (.iadd, 1) := by decide +kernel
theorem dX0_storeUnlessAlone_59 : decode cX0_storeUnlessAlone 59 = .ok (.invokevirtual 32, 3) := by decide +kernel
theorem dX0_storeUnlessAlone_62 : decode cX0_storeUnlessAlone 62 = .ok (.iconst 1, 1) := by decide +kernel
theorem dX0_storeUnlessAlone_63 : decode cX0_storeUnlessAlone 63 = .ok (.ireturn, 1) := by decide +kernel
theorem dX0_isAlone_0 : decode cX0_isAlone 0 = .ok (.aload_n 0, 1) := by decide +kernel
theorem dX0_isAlone_1 : decode cX0_isAlone 1 = .ok (.getfield 20, 3) := by decide +kernel
theorem dX0_isAlone_4 : decode cX0_isAlone 4 = .ok (.iload_n 1, 1) := by decide +kernel
theorem dX0_isAlone_5 : decode cX0_isAlone 5 = .ok (.invokevirtual 44, 3) := by decide +kernel
theorem dX0_isAlone_8 : decode cX0_isAlone 8 = .ok (.iconst 1, 1) := by decide +kernel
theorem dX0_isAlone_9 : decode cX0_isAlone 9 = .ok (.if_icmp .ne 7, 3) := by decide +kernel
theorem dX0_isAlone_12 : decode cX0_isAlone 12 = .ok (.iconst 1, 1) := by decide +kernel
theorem dX0_isAlone_13 : decode cX0_isAlone 13 = .ok (.goto 4, 3) := by decide +kernel
theorem dX0_isAlone_16 : decode cX0_isAlone 16 = .ok (.iconst 0, 1) := by decide +kernel
theorem dX0_isAlone_17 : decode cX0_isAlone 17 = .ok (.ireturn, 1) := by decide +kernel
theorem dX0_differencesOf_0 : decode cX0_differencesOf 0 = .ok (.iconst 0, 1) := by decide +kernel
theorem dX0_differencesOf_1 : decode cX0_differencesOf 1 = .ok (.istore_n 3, 1) := by decide +kernel
theorem dX0_differencesOf_2 : decode cX0_differencesOf 2 = .ok (.iconst 0, 1) := by decide +kernel
theorem dX0_differencesOf_3 : decode cX0_differencesOf 3 = .ok (.istore 4, 2) := by decide +kernel
theorem dX0_differencesOf_5 : decode cX0_differencesOf 5 = .ok (.iload 4, 2) := by decide +kernel
theorem dX0_differencesOf_7 : decode cX0_differencesOf 7 = .ok (.bipush 12, 2) := by decide +kernel
theorem dX0_differencesOf_9 : decode cX0_differencesOf 9 = .ok (.if_icmp .ge 29, 3) := by decide +kernel
theorem dX0_differencesOf_12 : decode cX0_differencesOf 12 = .ok (.aload_n 0, 1) := by decide +kernel
theorem dX0_differencesOf_13 : decode cX0_differencesOf 13 = .ok (.iload_n 1, 1) := by decide +kernel
theorem dX0_differencesOf_14 : decode cX0_differencesOf 14 = .ok (.iload 4, 2) := by decide +kernel
theorem dX0_differencesOf_16 : decode cX0_differencesOf 16 = .ok (.invokevirtual 51, 3) := by decide +kernel
theorem dX0_differencesOf_19 : decode cX0_differencesOf 19 = .ok (.aload_n 0, 1) := by decide +kernel
theorem dX0_differencesOf_20 : decode cX0_differencesOf 20 = .ok (.iload_n 2, 1) := by decide +kernel
theorem dX0_differencesOf_21 : decode cX0_differencesOf 21 = .ok (.iload 4, 2) := by decide +kernel
theorem dX0_differencesOf_23 : decode cX0_differencesOf 23 = .ok (.invokevirtual 51, 3) := by decide +kernel
theorem dX0_differencesOf_26 : decode cX0_differencesOf 26 = .ok (.if_icmp .eq 6, 3) := by decide +kernel
theorem dX0_differencesOf_29 : decode cX0_differencesOf 29 = .ok (.iinc 3 1, 3) := by decide +kernel
theorem dX0_differencesOf_32 : decode cX0_differencesOf 32 = .ok (.iinc 4 1, 3) := by decide +kernel
theorem dX0_differencesOf_35 : decode cX0_differencesOf 35 = .ok (.goto (-30), 3) := by decide +kernel
theorem dX0_differencesOf_38 : decode cX0_differencesOf 38 = .ok (.iload_n 3, 1) := by decide +kernel
theorem dX0_differencesOf_39 : decode cX0_differencesOf 39 = .ok (.ireturn, 1) := by decide +kernel
theorem dX0_copyCells_0 : decode cX0_copyCells 0 = .ok (.iconst 0, 1) := by decide +kernel
theorem dX0_copyCells_1 : decode cX0_copyCells 1 = .ok (.istore_n 3, 1) := by decide +kernel
theorem dX0_copyCells_2 : decode cX0_copyCells 2 = .ok (.iload_n 3, 1) := by decide +kernel
theorem dX0_copyCells_3 : decode cX0_copyCells 3 = .ok (.bipush 12, 2) := by decide +kernel
theorem dX0_copyCells_5 : decode cX0_copyCells 5 = .ok (.if_icmp .ge 21, 3) := by decide +kernel
theorem dX0_copyCells_8 : decode cX0_copyCells 8 = .ok (.aload_n 0, 1) := by decide +kernel
theorem dX0_copyCells_9 : decode cX0_copyCells 9 = .ok (.iload_n 2, 1) := by decide +kernel
theorem dX0_copyCells_10 : decode cX0_copyCells 10 = .ok (.iload_n 3, 1) := by decide +kernel
theorem dX0_copyCells_11 : decode cX0_copyCells 11 = .ok (.aload_n 0, 1) := by decide +kernel
theorem dX0_copyCells_12 : decode cX0_copyCells 12 = .ok (.iload_n 1, 1) := by decide +kernel
theorem dX0_copyCells_13 : decode cX0_copyCells 13 = .ok (.iload_n 3, 1) := by decide +kernel
theorem dX0_copyCells_14 : decode cX0_copyCells 14 = .ok (.invokevirtual 51, 3) := by decide +kernel
theorem dX0_copyCells_17 : decode cX0_copyCells 17 = .ok (.invokevirtual 58, 3) := by decide +kernel
theorem dX0_copyCells_20 : decode cX0_copyCells 20 = .ok (.iinc 3 1, 3) := by decide +kernel
theorem dX0_copyCells_23 : decode cX0_copyCells 23 = .ok (.goto (-21), 3) := by decide +kernel
theorem dX0_copyCells_26 : decode cX0_copyCells 26 = .ok (.return_, 1) := by decide +kernel
theorem dX0_twinOf_0 : decode cX0_twinOf 0 = .ok (.iload_n 1, 1) := by decide +kernel
theorem dX0_twinOf_1 : decode cX0_twinOf 1 = .ok (.bipush 16, 2) := by decide +kernel
theorem dX0_twinOf_3 : decode cX0_twinOf 3 = .ok (.irem, 1) := by decide +kernel
theorem dX0_twinOf_4 : decode cX0_twinOf 4 = .ok (.istore_n 2, 1) := by decide +kernel
theorem dX0_twinOf_5 : decode cX0_twinOf 5 = .ok (.iconst 0, 1) := by decide +kernel
theorem dX0_twinOf_6 : decode cX0_twinOf 6 = .ok (.istore_n 3, 1) := by decide +kernel
theorem dX0_twinOf_7 : decode cX0_twinOf 7 = .ok (.iload_n 3, 1) := by decide +kernel
theorem dX0_twinOf_8 : decode cX0_twinOf 8 = .ok (.iconst 4, 1) := by decide +kernel
theorem dX0_twinOf_9 : decode cX0_twinOf 9 = .ok (.if_icmp .ge 58, 3) := by decide +kernel
theorem dX0_twinOf_12 : decode cX0_twinOf 12 = .ok (.iload_n 3, 1) := by decide +kernel
theorem dX0_twinOf_13 : decode cX0_twinOf 13 = .ok (.bipush 16, 2) := by decide +kernel
theorem dX0_twinOf_15 : decode cX0_twinOf 15 = .ok (.imul, 1) := by decide +kernel
theorem dX0_twinOf_16 : decode cX0_twinOf 16 = .ok (.iload_n 2, 1) := by decide +kernel
theorem dX0_twinOf_17 : decode cX0_twinOf 17 = .ok (.iadd, 1) := by decide +kernel
theorem dX0_twinOf_18 : decode cX0_twinOf 18 = .ok (.istore 4, 2) := by decide +kernel
theorem dX0_twinOf_20 : decode cX0_twinOf 20 = .ok (.iload_n 2, 1) := by decide +kernel
theorem dX0_twinOf_21 : decode cX0_twinOf 21 = .ok (.bipush 12, 2) := by decide +kernel
theorem dX0_twinOf_23 : decode cX0_twinOf 23 = .ok (.if_icmp .ge 17, 3) := by decide +kernel
theorem dX0_twinOf_26 : decode cX0_twinOf 26 = .ok (.aload_n 0, 1) := by decide +kernel
theorem dX0_twinOf_27 : decode cX0_twinOf 27 = .ok (.iload 4, 2) := by decide +kernel
theorem dX0_twinOf_29 : decode cX0_twinOf 29 = .ok (.invokevirtual 48, 3) := by decide +kernel
theorem dX0_twinOf_32 : decode cX0_twinOf 32 = .ok (.aload_n 0, 1) := by decide +kernel
theorem dX0_twinOf_33 : decode cX0_twinOf 33 = .ok (.iload_n 1, 1) := by decide +kernel
theorem dX0_twinOf_34 : decode cX0_twinOf 34 = .ok (.invokevirtual 48, 3) := by decide +kernel
theorem dX0_twinOf_37 : decode cX0_twinOf 37 = .ok (.if_icmp .ne 7, 3) := by decide +kernel
theorem dX0_twinOf_40 : decode cX0_twinOf 40 = .ok (.iconst 1, 1) := by decide +kernel
theorem dX0_twinOf_41 : decode cX0_twinOf 41 = .ok (.goto 4, 3) := by decide +kernel
theorem dX0_twinOf_44 : decode cX0_twinOf 44 = .ok (.iconst 0, 1) := by decide +kernel
theorem dX0_twinOf_45 : decode cX0_twinOf 45 = .ok (.istore 5, 2) := by decide +kernel
theorem dX0_twinOf_47 : decode cX0_twinOf 47 = .ok (.iload 4, 2) := by decide +kernel
theorem dX0_twinOf_49 : decode cX0_twinOf 49 = .ok (.iload_n 1, 1) := by decide +kernel
theorem dX0_twinOf_50 : decode cX0_twinOf 50 = .ok (.if_icmp .eq 11, 3) := by decide +kernel
theorem dX0_twinOf_53 : decode cX0_twinOf 53 = .ok (.iload 5, 2) := by decide +kernel
theorem dX0_twinOf_55 : decode cX0_twinOf 55 = .ok (.ifCond .eq 6, 3) := by decide +kernel
theorem dX0_twinOf_58 : decode cX0_twinOf 58 = .ok (.iload 4, 2) := by decide +kernel
theorem dX0_twinOf_60 : decode cX0_twinOf 60 = .ok (.ireturn, 1) := by decide +kernel
theorem dX0_twinOf_61 : decode cX0_twinOf 61 = .ok (.iinc 3 1, 3) := by decide +kernel
theorem dX0_twinOf_64 : decode cX0_twinOf 64 = .ok (.goto (-57), 3) := by decide +kernel
theorem dX0_twinOf_67 : decode cX0_twinOf 67 = .ok (.bipush (-5), 2) := by decide +kernel
theorem dX0_twinOf_69 : decode cX0_twinOf 69 = .ok (.ireturn, 1) := by decide +kernel
theorem dX0_windowsOf_0 : decode cX0_windowsOf 0 = .ok (.iconst 0, 1) := by decide +kernel
theorem dX0_windowsOf_1 : decode cX0_windowsOf 1 = .ok (.istore_n 2, 1) := by decide +kernel
theorem dX0_windowsOf_2 : decode cX0_windowsOf 2 = .ok (.iconst 0, 1) := by decide +kernel
theorem dX0_windowsOf_3 : decode cX0_windowsOf 3 = .ok (.istore_n 3, 1) := by decide +kernel
theorem dX0_windowsOf_4 : decode cX0_windowsOf 4 = .ok (.iload_n 3, 1) := by decide +kernel
theorem dX0_windowsOf_5 : decode cX0_windowsOf 5 = .ok (.iconst 4, 1) := by decide +kernel
theorem dX0_windowsOf_6 : decode cX0_windowsOf 6 = .ok (.if_icmp .ge 27, 3) := by decide +kernel
theorem dX0_windowsOf_9 : decode cX0_windowsOf 9 = .ok (.aload_n 0, 1) := by decide +kernel
theorem dX0_windowsOf_10 : decode cX0_windowsOf 10 = .ok (.getfield 23, 3) := by decide +kernel
theorem dX0_windowsOf_13 : decode cX0_windowsOf 13 = .ok (.iload_n 3, 1) := by decide +kernel
theorem dX0_windowsOf_14 : decode cX0_windowsOf 14 = .ok (.invokevirtual 44, 3) := by decide +kernel
theorem dX0_windowsOf_17 : decode cX0_windowsOf 17 = .ok (.iload_n 1, 1) := by decide +kernel
theorem dX0_windowsOf_18 : decode cX0_windowsOf 18 = .ok (.if_icmp .ne 9, 3) := by decide +kernel
theorem dX0_windowsOf_21 : decode cX0_windowsOf 21 = .ok (.iload_n 2, 1) := by decide +kernel
theorem dX0_windowsOf_22 : decode cX0_windowsOf 22 = .ok (.iconst 1, 1) := by decide +kernel
theorem dX0_windowsOf_23 : decode cX0_windowsOf 23 = .ok (.iload_n 3, 1) := by decide +kernel
theorem dX0_windowsOf_24 : decode cX0_windowsOf 24 = .ok (.ishl, 1) := by decide +kernel
theorem dX0_windowsOf_25 : decode cX0_windowsOf 25 = .ok (.ior, 1) := by decide +kernel
theorem dX0_windowsOf_26 : decode cX0_windowsOf 26 = .ok (.istore_n 2, 1) := by decide +kernel
theorem dX0_windowsOf_27 : decode cX0_windowsOf 27 = .ok (.iinc 3 1, 3) := by decide +kernel
theorem dX0_windowsOf_30 : decode cX0_windowsOf 30 = .ok (.goto (-26), 3) := by decide +kernel
theorem dX0_windowsOf_33 : decode cX0_windowsOf 33 = .ok (.iload_n 2, 1) := by decide +kernel
theorem dX0_windowsOf_34 : decode cX0_windowsOf 34 = .ok (.ireturn, 1) := by decide +kernel
theorem dX0_usedCellsOf_0 : decode cX0_usedCellsOf 0 = .ok (.iconst 0, 1) := by decide +kernel
theorem dX0_usedCellsOf_1 : decode cX0_usedCellsOf 1 = .ok (.istore_n 2, 1) := by decide +kernel
theorem dX0_usedCellsOf_2 : decode cX0_usedCellsOf 2 = .ok (.iconst 0, 1) := by decide +kernel
theorem dX0_usedCellsOf_3 : decode cX0_usedCellsOf 3 = .ok (.istore_n 3, 1) := by decide +kernel
theorem dX0_usedCellsOf_4 : decode cX0_usedCellsOf 4 = .ok (.iload_n 3, 1) := by decide +kernel
theorem dX0_usedCellsOf_5 : decode cX0_usedCellsOf 5 = .ok (.bipush 12, 2) := by decide +kernel
theorem dX0_usedCellsOf_7 : decode cX0_usedCellsOf 7 = .ok (.if_icmp .ge 21, 3) := by decide +kernel
theorem dX0_usedCellsOf_10 : decode cX0_usedCellsOf 10 = .ok (.aload_n 0, 1) := by decide +kernel
theorem dX0_usedCellsOf_11 : decode cX0_usedCellsOf 11 = .ok (.iload_n 1, 1) := by decide +kernel
theorem dX0_usedCellsOf_12 : decode cX0_usedCellsOf 12 = .ok (.iload_n 3, 1) := by decide +kernel
theorem dX0_usedCellsOf_13 : decode cX0_usedCellsOf 13 = .ok (.invokevirtual 51, 3) := by decide +kernel
theorem dX0_usedCellsOf_16 : decode cX0_usedCellsOf 16 = .ok (.ifCond .eq 6, 3) := by decide +kernel
theorem dX0_usedCellsOf_19 : decode cX0_usedCellsOf 19 = .ok (.iinc 2 1, 3) := by decide +kernel
theorem dX0_usedCellsOf_22 : decode cX0_usedCellsOf 22 = .ok (.iinc 3 1, 3) := by decide +kernel
theorem dX0_usedCellsOf_25 : decode cX0_usedCellsOf 25 = .ok (.goto (-21), 3) := by decide +kernel
theorem dX0_usedCellsOf_28 : decode cX0_usedCellsOf 28 = .ok (.iload_n 2, 1) := by decide +kernel
theorem dX0_usedCellsOf_29 : decode cX0_usedCellsOf 29 = .ok (.ireturn, 1) := by decide +kernel
theorem dX0_indexOf_0 : decode cX0_indexOf 0 = .ok (.iload_n 1, 1) := by decide +kernel
theorem dX0_indexOf_1 : decode cX0_indexOf 1 = .ok (.bipush 12, 2) := by decide +kernel
theorem dX0_indexOf_3 : decode cX0_indexOf 3 = .ok (.if_icmp .ge 12, 3) := by decide +kernel
theorem dX0_indexOf_6 : decode cX0_indexOf 6 = .ok (.iload_n 0, 1) := by decide +kernel
theorem dX0_indexOf_7 : decode cX0_indexOf 7 = .ok (.bipush 12, 2) := by decide +kernel
theorem dX0_indexOf_9 : decode cX0_indexOf 9 = .ok (.imul, 1) := by decide +kernel
theorem dX0_indexOf_10 : decode cX0_indexOf 10 = .ok (.iload_n 1, 1) := by decide +kernel
theorem dX0_indexOf_11 : decode cX0_indexOf 11 = .ok (.iadd, 1) := by decide +kernel
theorem dX0_indexOf_12 : decode cX0_indexOf 12 = .ok (.goto 10, 3) := by decide +kernel
theorem dX0_indexOf_15 : decode cX0_indexOf 15 = .ok (.bipush 96, 2) := by decide +kernel
theorem dX0_indexOf_17 : decode cX0_indexOf 17 = .ok (.iload_n 1, 1) := by decide +kernel
theorem dX0_indexOf_18 : decode cX0_indexOf 18 = .ok (.iadd, 1) := by decide +kernel
theorem dX0_indexOf_19 : decode cX0_indexOf 19 = .ok (.bipush 12, 2) := by decide +kernel
theorem dX0_indexOf_21 : decode cX0_indexOf 21 = .ok (.isub, 1) := by decide +kernel
theorem dX0_indexOf_22 : decode cX0_indexOf 22 = .ok (.ireturn, 1) := by decide +kernel
theorem dX1_init_0 : decode cX1_init 0 = .ok (.aload_n 0, 1) := by decide +kernel
theorem dX1_init_1 : decode cX1_init 1 = .ok (.invokespecial 3, 3) := by decide +kernel
theorem dX1_init_4 : decode cX1_init 4 = .ok (.aload_n 0, 1) := by decide +kernel
theorem dX1_init_5 : decode cX1_init 5 = .ok (.new 9, 3) := by decide +kernel
theorem dX1_init_8 : decode cX1_init 8 = .ok (.dup, 1) := by decide +kernel
theorem dX1_init_9 : decode cX1_init 9 = .ok (.bipush 16, 2) := by decide +kernel
theorem dX1_init_11 : decode cX1_init 11 = .ok (.invokespecial 11, 3) := by decide +kernel
theorem dX1_init_14 : decode cX1_init 14 = .ok (.putfield 14, 3) := by decide +kernel
theorem dX1_init_17 : decode cX1_init 17 = .ok (.return_, 1) := by decide +kernel
theorem dX2_init_0 : decode cX2_init 0 = .ok (.aload_n 0, 1) := by decide +kernel
theorem dX2_init_1 : decode cX2_init 1 = .ok (.invokespecial 3, 3) := by decide +kernel
theorem dX2_init_4 : decode cX2_init 4 = .ok (.aload_n 0, 1) := by decide +kernel
theorem dX2_init_5 : decode cX2_init 5 = .ok (.new 9, 3) := by decide +kernel
theorem dX2_init_8 : decode cX2_init 8 = .ok (.dup, 1) := by decide +kernel
theorem dX2_init_9 : decode cX2_init 9 = .ok (.bipush 24, 2) := by decide +kernel
theorem dX2_init_11 : decode cX2_init 11 = .ok (.invokespecial 13, 3) := by decide +kernel
theorem dX2_init_14 : decode cX2_init 14 = .ok (.putfield 16, 3) := by decide +kernel
theorem dX2_init_17 : decode cX2_init 17 = .ok (.return_, 1) := by decide +kernel
theorem dX2_copyFrom_0 : decode cX2_copyFrom 0 = .ok (.aload_n 0, 1) := by decide +kernel
theorem dX2_copyFrom_1 : decode cX2_copyFrom 1 = .ok (.getfield 16, 3) := by decide +kernel
theorem dX2_copyFrom_4 : decode cX2_copyFrom 4 = .ok (.aload_n 1, 1) := by decide +kernel
theorem dX2_copyFrom_5 : decode cX2_copyFrom 5 = .ok (.getfield 16, 3) := by decide +kernel
theorem dX2_copyFrom_8 : decode cX2_copyFrom 8 = .ok (.invokevirtual 20, 3) := by decide +kernel
theorem dX2_copyFrom_11 : decode cX2_copyFrom 11 = .ok (.aload_n 0, 1) := by decide +kernel
theorem dX2_copyFrom_12 : decode cX2_copyFrom 12 = .ok (.aload_n 1, 1) := by decide +kernel
theorem dX2_copyFrom_13 : decode cX2_copyFrom 13 = .ok (.getfield 24, 3) := by decide +kernel
theorem dX2_copyFrom_16 : decode cX2_copyFrom 16 = .ok (.putfield 24, 3) := by decide +kernel
theorem dX2_copyFrom_19 : decode cX2_copyFrom 19 = .ok (.return_, 1) := by decide +kernel
theorem dX2_add_0 : decode cX2_add 0 = .ok (.aload_n 0, 1) := by decide +kernel
theorem dX2_add_1 : decode cX2_add 1 = .ok (.getfield 24, 3) := by decide +kernel
theorem dX2_add_4 : decode cX2_add 4 = .ok (.iconst 3, 1) := by decide +kernel
theorem dX2_add_5 : decode cX2_add 5 = .ok (.imul, 1) := by decide +kernel
theorem dX2_add_6 : decode cX2_add 6 = .ok (.istore 4, 2) := by decide +kernel
theorem dX2_add_8 : decode cX2_add 8 = .ok (.aload_n 0, 1) := by decide +kernel
theorem dX2_add_9 : decode cX2_add 9 = .ok (.getfield 16, 3) := by decide +kernel
theorem dX2_add_12 : decode cX2_add 12 = .ok (.iload 4, 2) := by decide +kernel
theorem dX2_add_14 : decode cX2_add 14 = .ok (.iconst 0, 1) := by decide +kernel
theorem dX2_add_15 : decode cX2_add 15 = .ok (.iadd, 1) := by decide +kernel
theorem dX2_add_16 : decode cX2_add 16 = .ok (.iload_n 1, 1) := by decide +kernel
theorem dX2_add_17 : decode cX2_add 17 = .ok (.invokevirtual 28, 3) := by decide +kernel
theorem dX2_add_20 : decode cX2_add 20 = .ok (.aload_n 0, 1) := by decide +kernel
theorem dX2_add_21 : decode cX2_add 21 = .ok (.getfield 16, 3) := by decide +kernel
theorem dX2_add_24 : decode cX2_add 24 = .ok (.iload 4, 2) := by decide +kernel
theorem dX2_add_26 : decode cX2_add 26 = .ok (.iconst 1, 1) := by decide +kernel
theorem dX2_add_27 : decode cX2_add 27 = .ok (.iadd, 1) := by decide +kernel
theorem dX2_add_28 : decode cX2_add 28 = .ok (.iload_n 2, 1) := by decide +kernel
theorem dX2_add_29 : decode cX2_add 29 = .ok (.invokevirtual 28, 3) := by decide +kernel
theorem dX2_add_32 : decode cX2_add 32 = .ok (.aload_n 0, 1) := by decide +kernel
theorem dX2_add_33 : decode cX2_add 33 = .ok (.getfield 16, 3) := by decide +kernel
theorem dX2_add_36 : decode cX2_add 36 = .ok (.iload 4, 2) := by decide +kernel
theorem dX2_add_38 : decode cX2_add 38 = .ok (.iconst 2, 1) := by decide +kernel
theorem dX2_add_39 : decode cX2_add 39 = .ok (.iadd, 1) := by decide +kernel
theorem dX2_add_40 : decode cX2_add 40 = .ok (.iload_n 3, 1) := by decide +kernel
theorem dX2_add_41 : decode cX2_add 41 = .ok (.invokevirtual 28, 3) := by decide +kernel
theorem dX2_add_44 : decode cX2_add 44 = .ok (.aload_n 0, 1) := by decide +kernel
theorem dX2_add_45 : decode cX2_add 45 = .ok (.dup, 1) := by decide +kernel
theorem dX2_add_46 : decode cX2_add 46 = .ok (.getfield 24, 3) := by decide +kernel
theorem dX2_add_49 : decode cX2_add 49 = .ok (.iconst 1, 1) := by decide +kernel
theorem dX2_add_50 : decode cX2_add 50 = .ok (.iadd, 1) := by decide +kernel
theorem dX2_add_51 : decode cX2_add 51 = .ok (.putfield 24, 3) := by decide +kernel
theorem dX2_add_54 : decode cX2_add 54 = .ok (.return_, 1) := by decide +kernel
theorem dX2_tell_0 : decode cX2_tell 0 = .ok (.aload_n 0, 1) := by decide +kernel
theorem dX2_tell_1 : decode cX2_tell 1 = .ok (.getfield 16, 3) := by decide +kernel
theorem dX2_tell_4 : decode cX2_tell 4 = .ok (.aload_n 0, 1) := by decide +kernel
theorem dX2_tell_5 : decode cX2_tell 5 = .ok (.getfield 24, 3) := by decide +kernel
theorem dX2_tell_8 : decode cX2_tell 8 = .ok (.iconst 1, 1) := by decide +kernel
theorem dX2_tell_9 : decode cX2_tell 9 = .ok (.isub, 1) := by decide +kernel
theorem dX2_tell_10 : decode cX2_tell 10 = .ok (.iload_n 1, 1) := by decide +kernel
theorem dX2_tell_11 : decode cX2_tell 11 = .ok (.isub, 1) := by decide +kernel
theorem dX2_tell_12 : decode cX2_tell 12 = .ok (.iconst 3, 1) := by decide +kernel
theorem dX2_tell_13 : decode cX2_tell 13 = .ok (.imul, 1) := by decide +kernel
theorem dX2_tell_14 : decode cX2_tell 14 = .ok (.iload_n 2, 1) := by decide +kernel
theorem dX2_tell_15 : decode cX2_tell 15 = .ok (.iadd, 1) := by decide +kernel
theorem dX2_tell_16 : decode cX2_tell 16 = .ok (.invokevirtual 32, 3) := by decide +kernel
theorem dX2_tell_19 : decode cX2_tell 19 = .ok (.ireturn, 1) := by decide +kernel
theorem dX2_howManyBackTo_0 : decode cX2_howManyBackTo 0 = .ok (.iconst 0, 1) := by decide +kernel
theorem dX2_howManyBackTo_1 : decode cX2_howManyBackTo 1 = .ok (.istore_n 2, 1) := by decide +kernel
theorem dX2_howManyBackTo_2 : decode cX2_howManyBackTo 2 = .ok (.iconst 0, 1) := by decide +kernel
theorem dX2_howManyBackTo_3 : decode cX2_howManyBackTo 3 = .ok (.istore_n 3, 1) := by decide +kernel
theorem dX2_howManyBackTo_4 : decode cX2_howManyBackTo 4 = .ok (.iload_n 3, 1) := by decide +kernel
theorem dX2_howManyBackTo_5 : decode cX2_howManyBackTo 5 = .ok (.aload_n 0, 1) := by decide +kernel
theorem dX2_howManyBackTo_6 : decode cX2_howManyBackTo 6 = .ok (.getfield 24, 3) := by decide +kernel
theorem dX2_howManyBackTo_9 : decode cX2_howManyBackTo 9 = .ok (.if_icmp .ge 22, 3) := by decide +kernel
theorem dX2_howManyBackTo_12 : decode cX2_howManyBackTo 12 = .ok (.aload_n 0, 1) := by decide +kernel
theorem dX2_howManyBackTo_13 : decode cX2_howManyBackTo 13 = .ok (.iload_n 3, 1) := by decide +kernel
theorem dX2_howManyBackTo_14 : decode cX2_howManyBackTo 14 = .ok (.iconst 1, 1) := by decide +kernel
theorem dX2_howManyBackTo_15 : decode cX2_howManyBackTo 15 = .ok (.invokevirtual 36, 3) := by decide +kernel
theorem dX2_howManyBackTo_18 : decode cX2_howManyBackTo 18 = .ok (.iload_n 1, 1) := by decide +kernel
theorem dX2_howManyBackTo_19 : decode cX2_howManyBackTo 19 = .ok (.if_icmp .ne 6, 3) := by decide +kernel
theorem dX2_howManyBackTo_22 : decode cX2_howManyBackTo 22 = .ok (.iinc 2 1, 3) := by decide +kernel
theorem dX2_howManyBackTo_25 : decode cX2_howManyBackTo 25 = .ok (.iinc 3 1, 3) := by decide +kernel
theorem dX2_howManyBackTo_28 : decode cX2_howManyBackTo 28 = .ok (.goto (-24), 3) := by decide +kernel
theorem dX2_howManyBackTo_31 : decode cX2_howManyBackTo 31 = .ok (.iload_n 2, 1) := by decide +kernel
theorem dX2_howManyBackTo_32 : decode cX2_howManyBackTo 32 = .ok (.ireturn, 1) := by decide +kernel
theorem dX3_init_0 : decode cX3_init 0 = .ok (.aload_n 0, 1) := by decide +kernel
theorem dX3_init_1 : decode cX3_init 1 = .ok (.invokespecial 3, 3) := by decide +kernel
theorem dX3_init_4 : decode cX3_init 4 = .ok (.aload_n 0, 1) := by decide +kernel
theorem dX3_init_5 : decode cX3_init 5 = .ok (.iconst 4, 1) := by decide +kernel
theorem dX3_init_6 : decode cX3_init 6 = .ok (.anewarray 9, 3) := by decide +kernel
theorem dX3_init_9 : decode cX3_init 9 = .ok (.putfield 11, 3) := by decide +kernel
theorem dX3_init_12 : decode cX3_init 12 = .ok (.iconst 0, 1) := by decide +kernel
theorem dX3_init_13 : decode cX3_init 13 = .ok (.istore_n 1, 1) := by decide +kernel
theorem dX3_init_14 : decode cX3_init 14 = .ok (.iload_n 1, 1) := by decide +kernel
theorem dX3_init_15 : decode cX3_init 15 = .ok (.aload_n 0, 1) := by decide +kernel
theorem dX3_init_16 : decode cX3_init 16 = .ok (.getfield 11, 3) := by decide +kernel
theorem dX3_init_19 : decode cX3_init 19 = .ok (.arraylength, 1) := by decide +kernel
theorem dX3_init_20 : decode cX3_init 20 = .ok (.if_icmp .ge 22, 3) := by decide +kernel
theorem dX3_init_23 : decode cX3_init 23 = .ok (.aload_n 0, 1) := by decide +kernel
theorem dX3_init_24 : decode cX3_init 24 = .ok (.getfield 11, 3) := by decide +kernel
theorem dX3_init_27 : decode cX3_init 27 = .ok (.iload_n 1, 1) := by decide +kernel
theorem dX3_init_28 : decode cX3_init 28 = .ok (.new 9, 3) := by decide +kernel
theorem dX3_init_31 : decode cX3_init 31 = .ok (.dup, 1) := by decide +kernel
theorem dX3_init_32 : decode cX3_init 32 = .ok (.invokespecial 17, 3) := by decide +kernel
theorem dX3_init_35 : decode cX3_init 35 = .ok (.aastore, 1) := by decide +kernel
theorem dX3_init_36 : decode cX3_init 36 = .ok (.iinc 1 1, 3) := by decide +kernel
theorem dX3_init_39 : decode cX3_init 39 = .ok (.goto (-25), 3) := by decide +kernel
theorem dX3_init_42 : decode cX3_init 42 = .ok (.return_, 1) := by decide +kernel
theorem dX3_remember_0 : decode cX3_remember 0 = .ok (.aload_n 0, 1) := by decide +kernel
theorem dX3_remember_1 : decode cX3_remember 1 = .ok (.getfield 18, 3) := by decide +kernel
theorem dX3_remember_4 : decode cX3_remember 4 = .ok (.iconst 4, 1) := by decide +kernel
theorem dX3_remember_5 : decode cX3_remember 5 = .ok (.if_icmp .ne 7, 3) := by decide +kernel
theorem dX3_remember_8 : decode cX3_remember 8 = .ok (.aload_n 0, 1) := by decide +kernel
theorem dX3_remember_9 : decode cX3_remember 9 = .ok (.invokevirtual 22, 3) := by decide +kernel
theorem dX3_remember_12 : decode cX3_remember 12 = .ok (.aload_n 0, 1) := by decide +kernel
theorem dX3_remember_13 : decode cX3_remember 13 = .ok (.getfield 18, 3) := by decide +kernel
theorem dX3_remember_16 : decode cX3_remember 16 = .ok (.ifCond .lt 38, 3) := by decide +kernel
theorem dX3_remember_19 : decode cX3_remember 19 = .ok (.aload_n 0, 1) := by decide +kernel
theorem dX3_remember_20 : decode cX3_remember 20 = .ok (.getfield 18, 3) := by decide +kernel
theorem dX3_remember_23 : decode cX3_remember 23 = .ok (.aload_n 0, 1) := by decide +kernel
theorem dX3_remember_24 : decode cX3_remember 24 = .ok (.getfield 11, 3) := by decide +kernel
theorem dX3_remember_27 : decode cX3_remember 27 = .ok (.arraylength, 1) := by decide +kernel
theorem dX3_remember_28 : decode cX3_remember 28 = .ok (.if_icmp .ge 26, 3) := by decide +kernel
theorem dX3_remember_31 : decode cX3_remember 31 = .ok (.aload_n 0, 1) := by decide +kernel
theorem dX3_remember_32 : decode cX3_remember 32 = .ok (.getfield 11, 3) := by decide +kernel
theorem dX3_remember_35 : decode cX3_remember 35 = .ok (.aload_n 0, 1) := by decide +kernel
theorem dX3_remember_36 : decode cX3_remember 36 = .ok (.getfield 18, 3) := by decide +kernel
theorem dX3_remember_39 : decode cX3_remember 39 = .ok (.aaload, 1) := by decide +kernel
theorem dX3_remember_40 : decode cX3_remember 40 = .ok (.aload_n 1, 1) := by decide +kernel
theorem dX3_remember_41 : decode cX3_remember 41 = .ok (.invokevirtual 25, 3) := by decide +kernel
theorem dX3_remember_44 : decode cX3_remember 44 = .ok (.aload_n 0, 1) := by decide +kernel
theorem dX3_remember_45 : decode cX3_remember 45 = .ok (.dup, 1) := by decide +kernel
theorem dX3_remember_46 : decode cX3_remember 46 = .ok (.getfield 18, 3) := by decide +kernel
theorem dX3_remember_49 : decode cX3_remember 49 = .ok (.iconst 1, 1) := by decide +kernel
theorem dX3_remember_50 : decode cX3_remember 50 = .ok (.iadd, 1) := by decide +kernel
theorem dX3_remember_51 : decode cX3_remember 51 = .ok (.putfield 18, 3) := by decide +kernel
theorem dX3_remember_54 : decode cX3_remember 54 = .ok (.return_, 1) := by decide +kernel
theorem dX3_bringBack_0 : decode cX3_bringBack 0 = .ok (.aload_n 0, 1) := by decide +kernel
theorem dX3_bringBack_1 : decode cX3_bringBack 1 = .ok (.getfield 18, 3) := by decide +kernel
theorem dX3_bringBack_4 : decode cX3_bringBack 4 = .ok (.ifCond .le 38, 3) := by decide +kernel
theorem dX3_bringBack_7 : decode cX3_bringBack 7 = .ok (.aload_n 0, 1) := by decide +kernel
theorem dX3_bringBack_8 : decode cX3_bringBack 8 = .ok (.getfield 18, 3) := by decide +kernel
theorem dX3_bringBack_11 : decode cX3_bringBack 11 = .ok (.aload_n 0, 1) := by decide +kernel
theorem dX3_bringBack_12 : decode cX3_bringBack 12 = .ok (.getfield 11, 3) := by decide +kernel
theorem dX3_bringBack_15 : decode cX3_bringBack 15 = .ok (.arraylength, 1) := by decide +kernel
theorem dX3_bringBack_16 : decode cX3_bringBack 16 = .ok (.if_icmp .gt 26, 3) := by decide +kernel
theorem dX3_bringBack_19 : decode cX3_bringBack 19 = .ok (.aload_n 0, 1) := by decide +kernel
theorem dX3_bringBack_20 : decode cX3_bringBack 20 = .ok (.dup, 1) := by decide +kernel
theorem dX3_bringBack_21 : decode cX3_bringBack 21 = .ok (.getfield 18, 3) := by decide +kernel
theorem dX3_bringBack_24 : decode cX3_bringBack 24 = .ok (.iconst 1, 1) := by decide +kernel
theorem dX3_bringBack_25 : decode cX3_bringBack 25 = .ok (.isub, 1) := by decide +kernel
theorem dX3_bringBack_26 : decode cX3_bringBack 26 = .ok (.putfield 18, 3) := by decide +kernel
theorem dX3_bringBack_29 : decode cX3_bringBack 29 = .ok (.aload_n 1, 1) := by decide +kernel
theorem dX3_bringBack_30 : decode cX3_bringBack 30 = .ok (.aload_n 0, 1) := by decide +kernel
theorem dX3_bringBack_31 : decode cX3_bringBack 31 = .ok (.getfield 11, 3) := by decide +kernel
theorem dX3_bringBack_34 : decode cX3_bringBack 34 = .ok (.aload_n 0, 1) := by decide +kernel
theorem dX3_bringBack_35 : decode cX3_bringBack 35 = .ok (.getfield 18, 3) := by decide +kernel
theorem dX3_bringBack_38 : decode cX3_bringBack 38 = .ok (.aaload, 1) := by decide +kernel
theorem dX3_bringBack_39 : decode cX3_bringBack 39 = .ok (.invokevirtual 25, 3) := by decide +kernel
theorem dX3_bringBack_42 : decode cX3_bringBack 42 = .ok (.return_, 1) := by decide +kernel
theorem dX3_dropOldest_0 : decode cX3_dropOldest 0 = .ok (.aload_n 0, 1) := by decide +kernel
theorem dX3_dropOldest_1 : decode cX3_dropOldest 1 = .ok (.getfield 11, 3) := by decide +kernel
theorem dX3_dropOldest_4 : decode cX3_dropOldest 4 = .ok (.iconst 0, 1) := by decide +kernel
theorem dX3_dropOldest_5 : decode cX3_dropOldest 5 = .ok (.aaload, 1) := by decide +kernel
theorem dX3_dropOldest_6 : decode cX3_dropOldest 6 = .ok (.astore_n 1, 1) := by decide +kernel
theorem dX3_dropOldest_7 : decode cX3_dropOldest 7 = .ok (.iconst 1, 1) := by decide +kernel
theorem dX3_dropOldest_8 : decode cX3_dropOldest 8 = .ok (.istore_n 2, 1) := by decide +kernel
theorem dX3_dropOldest_9 : decode cX3_dropOldest 9 = .ok (.iload_n 2, 1) := by decide +kernel
theorem dX3_dropOldest_10 : decode cX3_dropOldest 10 = .ok (.aload_n 0, 1) := by decide +kernel
theorem dX3_dropOldest_11 : decode cX3_dropOldest 11 = .ok (.getfield 11, 3) := by decide +kernel
theorem dX3_dropOldest_14 : decode cX3_dropOldest 14 = .ok (.arraylength, 1) := by decide +kernel
theorem dX3_dropOldest_15 : decode cX3_dropOldest 15 = .ok (.if_icmp .ge 23, 3) := by decide +kernel
theorem dX3_dropOldest_18 : decode cX3_dropOldest 18 = .ok (.aload_n 0, 1) := by decide +kernel
theorem dX3_dropOldest_19 : decode cX3_dropOldest 19 = .ok (.getfield 11, 3) := by decide +kernel
theorem dX3_dropOldest_22 : decode cX3_dropOldest 22 = .ok (.iload_n 2, 1) := by decide +kernel
theorem dX3_dropOldest_23 : decode cX3_dropOldest 23 = .ok (.iconst 1, 1) := by decide +kernel
theorem dX3_dropOldest_24 : decode cX3_dropOldest 24 = .ok (.isub, 1) := by decide +kernel
theorem dX3_dropOldest_25 : decode cX3_dropOldest 25 = .ok (.aload_n 0, 1) := by decide +kernel
theorem dX3_dropOldest_26 : decode cX3_dropOldest 26 = .ok (.getfield 11, 3) := by decide +kernel
theorem dX3_dropOldest_29 : decode cX3_dropOldest 29 = .ok (.iload_n 2, 1) := by decide +kernel
theorem dX3_dropOldest_30 : decode cX3_dropOldest 30 = .ok (.aaload, 1) := by decide +kernel
theorem dX3_dropOldest_31 : decode cX3_dropOldest 31 = .ok (.aastore, 1) := by decide +kernel
theorem dX3_dropOldest_32 : decode cX3_dropOldest 32 = .ok (.iinc 2 1, 3) := by decide +kernel
theorem dX3_dropOldest_35 : decode cX3_dropOldest 35 = .ok (.goto (-26), 3) := by decide +kernel
theorem dX3_dropOldest_38 : decode cX3_dropOldest 38 = .ok (.aload_n 0, 1) := by decide +kernel
theorem dX3_dropOldest_39 : decode cX3_dropOldest 39 = .ok (.getfield 11, 3) := by decide +kernel
theorem dX3_dropOldest_42 : decode cX3_dropOldest 42 = .ok (.aload_n 0, 1) := by decide +kernel
theorem dX3_dropOldest_43 : decode cX3_dropOldest 43 = .ok (.getfield 11, 3) := by decide +kernel
theorem dX3_dropOldest_46 : decode cX3_dropOldest 46 = .ok (.arraylength, 1) := by decide +kernel
theorem dX3_dropOldest_47 : decode cX3_dropOldest 47 = .ok (.iconst 1, 1) := by decide +kernel
theorem dX3_dropOldest_48 : decode cX3_dropOldest 48 = .ok (.isub, 1) := by decide +kernel
theorem dX3_dropOldest_49 : decode cX3_dropOldest 49 = .ok (.aload_n 1, 1) := by decide +kernel
theorem dX3_dropOldest_50 : decode cX3_dropOldest 50 = .ok (.aastore, 1) := by decide +kernel
theorem dX3_dropOldest_51 : decode cX3_dropOldest 51 = .ok (.aload_n 0, 1) := by decide +kernel
theorem dX3_dropOldest_52 : decode cX3_dropOldest 52 = .ok (.dup, 1) := by decide +kernel
theorem dX3_dropOldest_53 : decode cX3_dropOldest 53 = .ok (.getfield 18, 3) := by decide +kernel
theorem dX3_dropOldest_56 : decode cX3_dropOldest 56 = .ok (.iconst 1, 1) := by decide +kernel
theorem dX3_dropOldest_57 : decode cX3_dropOldest 57 = .ok (.isub, 1) := by decide +kernel
theorem dX3_dropOldest_58 : decode cX3_dropOldest 58 = .ok (.putfield 18, 3) := by decide +kernel
theorem dX3_dropOldest_61 : decode cX3_dropOldest 61 = .ok (.return_, 1) := by decide +kernel
theorem dX4_init_0 : decode cX4_init 0 = .ok (.aload_n 0, 1) := by decide +kernel
theorem dX4_init_1 : decode cX4_init 1 = .ok (.invokespecial 3, 3) := by decide +kernel
theorem dX4_init_4 : decode cX4_init 4 = .ok (.aload_n 0, 1) := by decide +kernel
theorem dX4_init_5 : decode cX4_init 5 = .ok (.new 9, 3) := by decide +kernel
theorem dX4_init_8 : decode cX4_init 8 = .ok (.dup, 1) := by decide +kernel
theorem dX4_init_9 : decode cX4_init 9 = .ok (.invokespecial 11, 3) := by decide +kernel
theorem dX4_init_12 : decode cX4_init 12 = .ok (.putfield 12, 3) := by decide +kernel
theorem dX4_init_15 : decode cX4_init 15 = .ok (.aload_n 0, 1) := by decide +kernel
theorem dX4_init_16 : decode cX4_init 16 = .ok (.new 18, 3) := by decide +kernel
theorem dX4_init_19 : decode cX4_init 19 = .ok (.dup, 1) := by decide +kernel
theorem dX4_init_20 : decode cX4_init 20 = .ok (.invokespecial 20, 3) := by decide +kernel
theorem dX4_init_23 : decode cX4_init 23 = .ok (.putfield 21, 3) := by decide +kernel
theorem dX4_init_26 : decode cX4_init 26 = .ok (.aload_n 0, 1) := by decide +kernel
theorem dX4_init_27 : decode cX4_init 27 = .ok (.new 25, 3) := by decide +kernel
theorem dX4_init_30 : decode cX4_init 30 = .ok (.dup, 1) := by decide +kernel
theorem dX4_init_31 : decode cX4_init 31 = .ok (.invokespecial 27, 3) := by decide +kernel
theorem dX4_init_34 : decode cX4_init 34 = .ok (.putfield 28, 3) := by decide +kernel
theorem dX4_init_37 : decode cX4_init 37 = .ok (.return_, 1) := by decide +kernel
theorem dX4_copyFrom_0 : decode cX4_copyFrom 0 = .ok (.aload_n 0, 1) := by decide +kernel
theorem dX4_copyFrom_1 : decode cX4_copyFrom 1 = .ok (.getfield 12, 3) := by decide +kernel
theorem dX4_copyFrom_4 : decode cX4_copyFrom 4 = .ok (.aload_n 1, 1) := by decide +kernel
theorem dX4_copyFrom_5 : decode cX4_copyFrom 5 = .ok (.getfield 12, 3) := by decide +kernel
theorem dX4_copyFrom_8 : decode cX4_copyFrom 8 = .ok (.invokevirtual 32, 3) := by decide +kernel
theorem dX4_copyFrom_11 : decode cX4_copyFrom 11 = .ok (.aload_n 0, 1) := by decide +kernel
theorem dX4_copyFrom_12 : decode cX4_copyFrom 12 = .ok (.getfield 21, 3) := by decide +kernel
theorem dX4_copyFrom_15 : decode cX4_copyFrom 15 = .ok (.aload_n 1, 1) := by decide +kernel
theorem dX4_copyFrom_16 : decode cX4_copyFrom 16 = .ok (.getfield 21, 3) := by decide +kernel
theorem dX4_copyFrom_19 : decode cX4_copyFrom 19 = .ok (.invokevirtual 36, 3) := by decide +kernel
theorem dX4_copyFrom_22 : decode cX4_copyFrom 22 = .ok (.aload_n 0, 1) := by decide +kernel
theorem dX4_copyFrom_23 : decode cX4_copyFrom 23 = .ok (.getfield 28, 3) := by decide +kernel
theorem dX4_copyFrom_26 : decode cX4_copyFrom 26 = .ok (.aload_n 1, 1) := by decide +kernel
theorem dX4_copyFrom_27 : decode cX4_copyFrom 27 = .ok (.getfield 28, 3) := by decide +kernel
theorem dX4_copyFrom_30 : decode cX4_copyFrom 30 = .ok (.invokevirtual 39, 3) := by decide +kernel
theorem dX4_copyFrom_33 : decode cX4_copyFrom 33 = .ok (.aload_n 0, 1) := by decide +kernel
theorem dX4_copyFrom_34 : decode cX4_copyFrom 34 = .ok (.aload_n 1, 1) := by decide +kernel
theorem dX4_copyFrom_35 : decode cX4_copyFrom 35 = .ok (.getfield 42, 3) := by decide +kernel
theorem dX4_copyFrom_38 : decode cX4_copyFrom 38 = .ok (.putfield 42, 3) := by decide +kernel
theorem dX4_copyFrom_41 : decode cX4_copyFrom 41 = .ok (.aload_n 0, 1) := by decide +kernel
theorem dX4_copyFrom_42 : decode cX4_copyFrom 42 = .ok (.aload_n 1, 1) := by decide +kernel
theorem dX4_copyFrom_43 : decode cX4_copyFrom 43 = .ok (.getfield 46, 3) := by decide +kernel
theorem dX4_copyFrom_46 : decode cX4_copyFrom 46 = .ok (.putfield 46, 3) := by decide +kernel
theorem dX4_copyFrom_49 : decode cX4_copyFrom 49 = .ok (.aload_n 0, 1) := by decide +kernel
theorem dX4_copyFrom_50 : decode cX4_copyFrom 50 = .ok (.aload_n 1, 1) := by decide +kernel
theorem dX4_copyFrom_51 : decode cX4_copyFrom 51 = .ok (.getfield 49, 3) := by decide +kernel
theorem dX4_copyFrom_54 : decode cX4_copyFrom 54 = .ok (.putfield 49, 3) := by decide +kernel
theorem dX4_copyFrom_57 : decode cX4_copyFrom 57 = .ok (.aload_n 0, 1) := by decide +kernel
theorem dX4_copyFrom_58 : decode cX4_copyFrom 58 = .ok (.aload_n 1, 1) := by decide +kernel
theorem dX4_copyFrom_59 : decode cX4_copyFrom 59 = .ok (.getfield 52, 3) := by decide +kernel
theorem dX4_copyFrom_62 : decode cX4_copyFrom 62 = .ok (.putfield 52, 3) := by decide +kernel
theorem dX4_copyFrom_65 : decode cX4_copyFrom 65 = .ok (.aload_n 0, 1) := by decide +kernel
theorem dX4_copyFrom_66 : decode cX4_copyFrom 66 = .ok (.aload_n 1, 1) := by decide +kernel
theorem dX4_copyFrom_67 : decode cX4_copyFrom 67 = .ok (.getfield 55, 3) := by decide +kernel
theorem dX4_copyFrom_70 : decode cX4_copyFrom 70 = .ok (.putfield 55, 3) := by decide +kernel
theorem dX4_copyFrom_73 : decode cX4_copyFrom 73 = .ok (.return_, 1) := by decide +kernel
theorem dX4_startAt_0 : decode cX4_startAt 0 = .ok (.aload_n 0, 1) := by decide +kernel
theorem dX4_startAt_1 : decode cX4_startAt 1 = .ok (.iload_n 1, 1) := by decide +kernel
theorem dX4_startAt_2 : decode cX4_startAt 2 = .ok (.putfield 46, 3) := by decide +kernel
theorem dX4_startAt_5 : decode cX4_startAt 5 = .ok (.aload_n 0, 1) := by decide +kernel
theorem dX4_startAt_6 : decode cX4_startAt 6 = .ok (.iconst 0, 1) := by decide +kernel
theorem dX4_startAt_7 : decode cX4_startAt 7 = .ok (.putfield 42, 3) := by decide +kernel
theorem dX4_startAt_10 : decode cX4_startAt 10 = .ok (.aload_n 0, 1) := by decide +kernel
theorem dX4_startAt_11 : decode cX4_startAt 11 = .ok (.iconst 0, 1) := by decide +kernel
theorem dX4_startAt_12 : decode cX4_startAt 12 = .ok (.putfield 49, 3) := by decide +kernel
theorem dX4_startAt_15 : decode cX4_startAt 15 = .ok (.aload_n 0, 1) := by decide +kernel
theorem dX4_startAt_16 : decode cX4_startAt 16 = .ok (.getfield 21, 3) := by decide +kernel
theorem dX4_startAt_19 : decode cX4_startAt 19 = .ok (.iconst 0, 1) := by decide +kernel
theorem dX4_startAt_20 : decode cX4_startAt 20 = .ok (.putfield 58, 3) := by decide +kernel
theorem dX4_startAt_23 : decode cX4_startAt 23 = .ok (.return_, 1) := by decide +kernel
theorem dX4_takeSteps_0 : decode cX4_takeSteps 0 = .ok (.iconst 0, 1) := by decide +kernel
theorem dX4_takeSteps_1 : decode cX4_takeSteps 1 = .ok (.istore_n 2, 1) := by decide +kernel
theorem dX4_takeSteps_2 : decode cX4_takeSteps 2 = .ok (.iload_n 2, 1) := by decide +kernel
theorem dX4_takeSteps_3 : decode cX4_takeSteps 3 = .ok (.iload_n 1, 1) := by decide +kernel
theorem dX4_takeSteps_4 : decode cX4_takeSteps 4 = .ok (.if_icmp .ge 20, 3) := by decide +kernel
theorem dX4_takeSteps_7 : decode cX4_takeSteps 7 = .ok (.aload_n 0, 1) := by decide +kernel
theorem dX4_takeSteps_8 : decode cX4_takeSteps 8 = .ok (.getfield 49, 3) := by decide +kernel
theorem dX4_takeSteps_11 : decode cX4_takeSteps 11 = .ok (.ifCond .ne 13, 3) := by decide +kernel
theorem dX4_takeSteps_14 : decode cX4_takeSteps 14 = .ok (.aload_n 0, 1) := by decide +kernel
theorem dX4_takeSteps_15 : decode cX4_takeSteps 15 = .ok (.invokevirtual 61, 3) := by decide +kernel
theorem dX4_takeSteps_18 : decode cX4_takeSteps 18 = .ok (.iinc 2 1, 3) := by decide +kernel
theorem dX4_takeSteps_21 : decode cX4_takeSteps 21 = .ok (.goto (-19), 3) := by decide +kernel
theorem dX4_takeSteps_24 : decode cX4_takeSteps 24 = .ok (.iload_n 2, 1) := by decide +kernel
theorem dX4_takeSteps_25 : decode cX4_takeSteps 25 = .ok (.ireturn, 1) := by decide +kernel
theorem dX4_step_0 : decode cX4_step 0 = .ok (.aload_n 0, 1) := by decide +kernel
theorem dX4_step_1 : decode cX4_step 1 = .ok (.getfield 46, 3) := by decide +kernel
theorem dX4_step_4 : decode cX4_step 4 = .ok (.istore_n 1, 1) := by decide +kernel
theorem dX4_step_5 : decode cX4_step 5 = .ok (.aload_n 0, 1) := by decide +kernel
theorem dX4_step_6 : decode cX4_step 6 = .ok (.getfield 12, 3) := by decide +kernel
theorem dX4_step_9 : decode cX4_step 9 = .ok (.iload_n 1, 1) := by decide +kernel
theorem dX4_step_10 : decode cX4_step 10 = .ok (.invokevirtual 64, 3) := by decide +kernel
theorem dX4_step_13 : decode cX4_step 13 = .ok (.istore_n 2, 1) := by decide +kernel
theorem dX4_step_14 : decode cX4_step 14 = .ok (.iload_n 2, 1) := by decide +kernel
theorem dX4_step_15 : decode cX4_step 15 = .ok (.bipush 100, 2) := by decide +kernel
theorem dX4_step_17 : decode cX4_step 17 = .ok (.idiv, 1) := by decide +kernel
theorem dX4_step_18 : decode cX4_step 18 = .ok (.istore_n 3, 1) := by decide +kernel
theorem dX4_step_19 : decode cX4_step 19 = .ok (.iload_n 2, 1) := by decide +kernel
theorem dX4_step_20 : decode cX4_step 20 = .ok (.bipush 100, 2) := by decide +kernel
theorem dX4_step_22 : decode cX4_step 22 = .ok (.irem, 1) := by decide +kernel
theorem dX4_step_23 : decode cX4_step 23 = .ok (.istore 4, 2) := by decide +kernel
theorem dX4_step_25 : decode cX4_step 25 = .ok (.aload_n 0, 1) := by decide +kernel
theorem dX4_step_26 : decode cX4_step 26 = .ok (.getfield 28, 3) := by decide +kernel
theorem dX4_step_29 : decode cX4_step 29 = .ok (.iload_n 1, 1) := by decide +kernel
theorem dX4_step_30 : decode cX4_step 30 = .ok (.aload_n 0, 1) := by decide +kernel
theorem dX4_step_31 : decode cX4_step 31 = .ok (.getfield 12, 3) := by decide +kernel
theorem dX4_step_34 : decode cX4_step 34 = .ok (.iload_n 1, 1) := by decide +kernel
theorem dX4_step_35 : decode cX4_step 35 = .ok (.invokevirtual 68, 3) := by decide +kernel
theorem dX4_step_38 : decode cX4_step 38 = .ok (.iload_n 2, 1) := by decide +kernel
theorem dX4_step_39 : decode cX4_step 39 = .ok (.invokevirtual 71, 3) := by decide +kernel
theorem dX4_step_42 : decode cX4_step 42 = .ok (.aload_n 0, 1) := by decide +kernel
theorem dX4_step_43 : decode cX4_step 43 = .ok (.iload_n 1, 1) := by decide +kernel
theorem dX4_step_44 : decode cX4_step 44 = .ok (.iconst 1, 1) := by decide +kernel
theorem dX4_step_45 : decode cX4_step 45 = .ok (.iadd, 1) := by decide +kernel
theorem dX4_step_46 : decode cX4_step 46 = .ok (.putfield 46, 3) := by decide +kernel
theorem dX4_step_49 : decode cX4_step 49 = .ok (.aload_n 0, 1) := by decide +kernel
theorem dX4_step_50 : decode cX4_step 50 = .ok (.aload_n 0, 1) := by decide +kernel
theorem dX4_step_51 : decode cX4_step 51 = .ok (.iload_n 3, 1) := by decide +kernel
theorem dX4_step_52 : decode cX4_step 52 = .ok (.iload 4, 2) := by decide +kernel
theorem dX4_step_54 : decode cX4_step 54 = .ok (.invokevirtual 75, 3) := by decide +kernel
theorem dX4_step_57 : decode cX4_step 57 = .ok (.putfield 49, 3) := by decide +kernel
theorem dX4_step_60 : decode cX4_step 60 = .ok (.aload_n 0, 1) := by decide +kernel
theorem dX4_step_61 : decode cX4_step 61 = .ok (.getfield 49, 3) := by decide +kernel
theorem dX4_step_64 : decode cX4_step 64 = .ok (.ifCond .ne 14, 3) := by decide +kernel
theorem dX4_step_67 : decode cX4_step 67 = .ok (.aload_n 0, 1) := by decide +kernel
theorem dX4_step_68 : decode cX4_step 68 = .ok (.iload_n 3, 1) := by decide +kernel
theorem dX4_step_69 : decode cX4_step 69 = .ok (.iload 4, 2) := by decide +kernel
theorem dX4_step_71 : decode cX4_step 71 = .ok (.iload_n 1, 1) := by decide +kernel
theorem dX4_step_72 : decode cX4_step 72 = .ok (.bipush 16, 2) := by decide +kernel
theorem dX4_step_74 : decode cX4_step 74 = .ok (.idiv, 1) := by decide +kernel
theorem dX4_step_75 : decode cX4_step 75 = .ok (.invokevirtual 79, 3) := by decide +kernel
theorem dX4_step_78 : decode cX4_step 78 = .ok (.aload_n 0, 1) := by decide +kernel
theorem dX4_step_79 : decode cX4_step 79 = .ok (.getfield 49, 3) := by decide +kernel
theorem dX4_step_82 : decode cX4_step 82 = .ok (.ifCond .ne 18, 3) := by decide +kernel
theorem dX4_step_85 : decode cX4_step 85 = .ok (.aload_n 0, 1) := by decide +kernel
theorem dX4_step_86 : decode cX4_step 86 = .ok (.getfield 46, 3) := by decide +kernel
theorem dX4_step_89 : decode cX4_step 89 = .ok (.bipush 64, 2) := by decide +kernel
theorem dX4_step_91 : decode cX4_step 91 = .ok (.if_icmp .ne 9, 3) := by decide +kernel
theorem dX4_step_94 : decode cX4_step 94 = .ok (.aload_n 0, 1) := by decide +kernel
theorem dX4_step_95 : decode cX4_step 95 = .ok (.bipush 6, 2) := by decide +kernel
theorem dX4_step_97 : decode cX4_step 97 = .ok (.putfield 49, 3) := by decide +kernel
theorem dX4_step_100 : decode cX4_step 100 = .ok (.return_, 1) := by decide +kernel
theorem dX4_hindranceOf_0 : decode cX4_hindranceOf 0 = .ok (.iload_n 1, 1) := by decide +kernel
theorem dX4_hindranceOf_1 : decode cX4_hindranceOf 1 = .ok (.iload_n 2, 1) := by decide +kernel
theorem dX4_hindranceOf_2 : decode cX4_hindranceOf 2 = .ok (.invokestatic 82, 3) := by decide +kernel
theorem dX4_hindranceOf_5 : decode cX4_hindranceOf 5 = .ok (.ifCond .eq 5, 3) := by decide +kernel
theorem dX4_hindranceOf_8 : decode cX4_hindranceOf 8 = .ok (.iconst 3, 1) := by decide +kernel
theorem dX4_hindranceOf_9 : decode cX4_hindranceOf 9 = .ok (.ireturn, 1) := by decide +kernel
theorem dX4_hindranceOf_10 : decode cX4_hindranceOf 10 = .ok (.iload_n 1, 1) := by decide +kernel
theorem dX4_hindranceOf_11 : decode cX4_hindranceOf 11 = .ok (.bipush 7, 2) := by decide +kernel
theorem dX4_hindranceOf_13 : decode cX4_hindranceOf 13 = .ok (.if_icmp .ne 17, 3) := by decide +kernel
theorem dX4_hindranceOf_16 : decode cX4_hindranceOf 16 = .ok (.aload_n 0, 1) := by decide +kernel
theorem dX4_hindranceOf_17 : decode cX4_hindranceOf 17 = .ok (.getfield 21, 3) := by decide +kernel
theorem dX4_hindranceOf_20 : decode cX4_hindranceOf 20 = .ok (.getfield 58, 3) := by decide +kernel
theorem dX4_hindranceOf_23 : decode cX4_hindranceOf 23 = .ok (.bipush 8, 2) := by decide +kernel
theorem dX4_hindranceOf_25 : decode cX4_hindranceOf 25 = .ok (.if_icmp .lt 5, 3) := by decide +kernel
theorem dX4_hindranceOf_28 : decode cX4_hindranceOf 28 = .ok (.iconst 4, 1) := by decide +kernel
theorem dX4_hindranceOf_29 : decode cX4_hindranceOf 29 = .ok (.ireturn, 1) := by decide +kernel
theorem dX4_hindranceOf_30 : decode cX4_hindranceOf 30 = .ok (.iload_n 1, 1) := by decide +kernel
theorem dX4_hindranceOf_31 : decode cX4_hindranceOf 31 = .ok (.bipush 8, 2) := by decide +kernel
theorem dX4_hindranceOf_33 : decode cX4_hindranceOf 33 = .ok (.if_icmp .ne 15, 3) := by decide +kernel
theorem dX4_hindranceOf_36 : decode cX4_hindranceOf 36 = .ok (.aload_n 0, 1) := by decide +kernel
theorem dX4_hindranceOf_37 : decode cX4_hindranceOf 37 = .ok (.getfield 21, 3) := by decide +kernel
theorem dX4_hindranceOf_40 : decode cX4_hindranceOf 40 = .ok (.getfield 58, 3) := by decide +kernel
theorem dX4_hindranceOf_43 : decode cX4_hindranceOf 43 = .ok (.ifCond .ne 5, 3) := by decide +kernel
theorem dX4_hindranceOf_46 : decode cX4_hindranceOf 46 = .ok (.iconst 5, 1) := by decide +kernel
theorem dX4_hindranceOf_47 : decode cX4_hindranceOf 47 = .ok (.ireturn, 1) := by decide +kernel
theorem dX4_hindranceOf_48 : decode cX4_hindranceOf 48 = .ok (.iconst 0, 1) := by decide +kernel
theorem dX4_hindranceOf_49 : decode cX4_hindranceOf 49 = .ok (.ireturn, 1) := by decide +kernel
theorem dX4_isBeyond_0 : decode cX4_isBeyond 0 = .ok (.iload_n 0, 1) := by decide +kernel
theorem dX4_isBeyond_1 : decode cX4_isBeyond 1 = .ok (.tableswitch 89 2 7 #[39, 39, 39, 39, 51, 74], 39) := by decide +kernel
theorem dX4_isBeyond_40 : decode cX4_isBeyond 40 = .ok (.iload_n 1, 1) := by decide +kernel
theorem dX4_isBeyond_41 : decode cX4_isBeyond 41 = .ok (.bipush 64, 2) := by decide +kernel
theorem dX4_isBeyond_43 : decode cX4_isBeyond 43 = .ok (.if_icmp .lt 7, 3) := by decide +kernel
theorem dX4_isBeyond_46 : decode cX4_isBeyond 46 = .ok (.iconst 1, 1) := by decide +kernel
theorem dX4_isBeyond_47 : decode cX4_isBeyond 47 = .ok (.goto 4, 3) := by decide +kernel
theorem dX4_isBeyond_50 : decode cX4_isBeyond 50 = .ok (.iconst 0, 1) := by decide +kernel
theorem dX4_isBeyond_51 : decode cX4_isBeyond 51 = .ok (.ireturn, 1) := by decide +kernel
theorem dX4_isBeyond_52 : decode cX4_isBeyond 52 = .ok (.iload_n 1, 1) := by decide +kernel
theorem dX4_isBeyond_53 : decode cX4_isBeyond 53 = .ok (.bipush 10, 2) := by decide +kernel
theorem dX4_isBeyond_55 : decode cX4_isBeyond 55 = .ok (.idiv, 1) := by decide +kernel
theorem dX4_isBeyond_56 : decode cX4_isBeyond 56 = .ok (.iconst 4, 1) := by decide +kernel
theorem dX4_isBeyond_57 : decode cX4_isBeyond 57 = .ok (.if_icmp .ge 12, 3) := by decide +kernel
theorem dX4_isBeyond_60 : decode cX4_isBeyond 60 = .ok (.iload_n 1, 1) := by decide +kernel
theorem dX4_isBeyond_61 : decode cX4_isBeyond 61 = .ok (.bipush 10, 2) := by decide +kernel
theorem dX4_isBeyond_63 : decode cX4_isBeyond 63 = .ok (.irem, 1) := by decide +kernel
theorem dX4_isBeyond_64 : decode cX4_isBeyond 64 = .ok (.bipush 8, 2) := by decide +kernel
theorem dX4_isBeyond_66 : decode cX4_isBeyond 66 = .ok (.if_icmp .lt 7, 3) := by decide +kernel
theorem dX4_isBeyond_69 : decode cX4_isBeyond 69 = .ok (.iconst 1, 1) := by decide +kernel
theorem dX4_isBeyond_70 : decode cX4_isBeyond 70 = .ok (.goto 4, 3) := by decide +kernel
theorem dX4_isBeyond_73 : decode cX4_isBeyond 73 = .ok (.iconst 0, 1) := by decide +kernel
theorem dX4_isBeyond_74 : decode cX4_isBeyond 74 = .ok (.ireturn, 1) := by decide +kernel
theorem dX4_isBeyond_75 : decode cX4_isBeyond 75 = .ok (.iload_n 1, 1) := by decide +kernel
theorem dX4_isBeyond_76 : decode cX4_isBeyond 76 = .ok (.bipush 10, 2) := by decide +kernel
theorem dX4_isBeyond_78 : decode cX4_isBeyond 78 = .ok (.idiv, 1) := by decide +kernel
theorem dX4_isBeyond_79 : decode cX4_isBeyond 79 = .ok (.bipush 8, 2) := by decide +kernel
theorem dX4_isBeyond_81 : decode cX4_isBeyond 81 = .ok (.if_icmp .lt 7, 3) := by decide +kernel
theorem dX4_isBeyond_84 : decode cX4_isBeyond 84 = .ok (.iconst 1, 1) := by decide +kernel
theorem dX4_isBeyond_85 : decode cX4_isBeyond 85 = .ok (.goto 4, 3) := by decide +kernel
theorem dX4_isBeyond_88 : decode cX4_isBeyond 88 = .ok (.iconst 0, 1) := by decide +kernel
theorem dX4_isBeyond_89 : decode cX4_isBeyond 89 = .ok (.ireturn, 1) := by decide +kernel
theorem dX4_isBeyond_90 : decode cX4_isBeyond 90 = .ok (.iconst 0, 1) := by decide +kernel
theorem dX4_isBeyond_91 : decode cX4_isBeyond 91 = .ok (.ireturn, 1) := by decide +kernel
theorem dX4_carryOut_0 : decode cX4_carryOut 0 = .ok (.iload_n 1, 1) := by decide +kernel
theorem dX4_carryOut_1 : decode cX4_carryOut 1 = .ok (.tableswitch 183 1 9 #[51, 59, 74, 108, 116, 138, 159, 168, 175], 51) := by decide +kernel
theorem dX4_carryOut_52 : decode cX4_carryOut 52 = .ok (.aload_n 0, 1) := by decide +kernel
theorem dX4_carryOut_53 : decode cX4_carryOut 53 = .ok (.iload_n 2, 1) := by decide +kernel
theorem dX4_carryOut_54 : decode cX4_carryOut 54 = .ok (.putfield 42, 3) := by decide +kernel
theorem dX4_carryOut_57 : decode cX4_carryOut 57 = .ok (.goto 132, 3) := by decide +kernel
theorem dX4_carryOut_60 : decode cX4_carryOut 60 = .ok (.aload_n 0, 1) := by decide +kernel
theorem dX4_carryOut_61 : decode cX4_carryOut 61 = .ok (.aload_n 0, 1) := by decide +kernel
theorem dX4_carryOut_62 : decode cX4_carryOut 62 = .ok (.getfield 12, 3) := by decide +kernel
theorem dX4_carryOut_65 : decode cX4_carryOut 65 = .ok (.iload_n 2, 1) := by decide +kernel
theorem dX4_carryOut_66 : decode cX4_carryOut 66 = .ok (.invokevirtual 64, 3) := by decide +kernel
theorem dX4_carryOut_69 : decode cX4_carryOut 69 = .ok (.invokevirtual 86, 3) := by decide +kernel
theorem dX4_carryOut_72 : decode cX4_carryOut 72 = .ok (.goto 117, 3) := by decide +kernel
theorem dX4_carryOut_75 : decode cX4_carryOut 75 = .ok (.aload_n 0, 1) := by decide +kernel
theorem dX4_carryOut_76 : decode cX4_carryOut 76 = .ok (.aload_n 0, 1) := by decide +kernel
theorem dX4_carryOut_77 : decode cX4_carryOut 77 = .ok (.getfield 12, 3) := by decide +kernel
theorem dX4_carryOut_80 : decode cX4_carryOut 80 = .ok (.iload_n 2, 1) := by decide +kernel
theorem dX4_carryOut_81 : decode cX4_carryOut 81 = .ok (.aload_n 0, 1) := by decide +kernel
theorem dX4_carryOut_82 : decode cX4_carryOut 82 = .ok (.getfield 42, 3) := by decide +kernel
theorem dX4_carryOut_85 : decode cX4_carryOut 85 = .ok (.invokevirtual 90, 3) := by decide +kernel
theorem dX4_carryOut_88 : decode cX4_carryOut 88 = .ok (.ifCond .ne 10, 3) := by decide +kernel
theorem dX4_carryOut_91 : decode cX4_carryOut 91 = .ok (.aload_n 0, 1) := by decide +kernel
theorem dX4_carryOut_92 : decode cX4_carryOut 92 = .ok (.getfield 52, 3) := by decide +kernel
theorem dX4_carryOut_95 : decode cX4_carryOut 95 = .ok (.ifCond .ne 7, 3) := by decide +kernel
theorem dX4_carryOut_98 : decode cX4_carryOut 98 = .ok (.iconst 0, 1) := by decide +kernel
theorem dX4_carryOut_99 : decode cX4_carryOut 99 = .ok (.goto 4, 3) := by decide +kernel
theorem dX4_carryOut_102 : decode cX4_carryOut 102 = .ok (.iconst 2, 1) := by decide +kernel
theorem dX4_carryOut_103 : decode cX4_carryOut 103 = .ok (.putfield 49, 3) := by decide +kernel
theorem dX4_carryOut_106 : decode cX4_carryOut 106 = .ok (.goto 83, 3) := by decide +kernel
theorem dX4_carryOut_109 : decode cX4_carryOut 109 = .ok (.aload_n 0, 1) := by decide +kernel
theorem dX4_carryOut_110 : decode cX4_carryOut 110 = .ok (.iload_n 2, 1) := by decide +kernel
theorem dX4_carryOut_111 : decode cX4_carryOut 111 = .ok (.putfield 46, 3) := by decide +kernel
theorem dX4_carryOut_114 : decode cX4_carryOut 114 = .ok (.goto 75, 3) := by decide +kernel
theorem dX4_carryOut_117 : decode cX4_carryOut 117 = .ok (.aload_n 0, 1) := by decide +kernel
theorem dX4_carryOut_118 : decode cX4_carryOut 118 = .ok (.aload_n 0, 1) := by decide +kernel
theorem dX4_carryOut_119 : decode cX4_carryOut 119 = .ok (.getfield 42, 3) := by decide +kernel
theorem dX4_carryOut_122 : decode cX4_carryOut 122 = .ok (.ifCond .ne 7, 3) := by decide +kernel
theorem dX4_carryOut_125 : decode cX4_carryOut 125 = .ok (.iload_n 2, 1) := by decide +kernel
theorem dX4_carryOut_126 : decode cX4_carryOut 126 = .ok (.goto 7, 3) := by decide +kernel
theorem dX4_carryOut_129 : decode cX4_carryOut 129 = .ok (.aload_n 0, 1) := by decide +kernel
theorem dX4_carryOut_130 : decode cX4_carryOut 130 = .ok (.getfield 46, 3) := by decide +kernel
theorem dX4_carryOut_133 : decode cX4_carryOut 133 = .ok (.putfield 46, 3) := by decide +kernel
theorem dX4_carryOut_136 : decode cX4_carryOut 136 = .ok (.goto 53, 3) := by decide +kernel
theorem dX4_carryOut_139 : decode cX4_carryOut 139 = .ok (.aload_n 0, 1) := by decide +kernel
theorem dX4_carryOut_140 : decode cX4_carryOut 140 = .ok (.getfield 12, 3) := by decide +kernel
theorem dX4_carryOut_143 : decode cX4_carryOut 143 = .ok (.getfield 93, 3) := by decide +kernel
theorem dX4_carryOut_146 : decode cX4_carryOut 146 = .ok (.iload_n 2, 1) := by decide +kernel
theorem dX4_carryOut_147 : decode cX4_carryOut 147 = .ok (.bipush 10, 2) := by decide +kernel
theorem dX4_carryOut_149 : decode cX4_carryOut 149 = .ok (.idiv, 1) := by decide +kernel
theorem dX4_carryOut_150 : decode cX4_carryOut 150 = .ok (.iload_n 2, 1) := by decide +kernel
theorem dX4_carryOut_151 : decode cX4_carryOut 151 = .ok (.bipush 10, 2) := by decide +kernel
theorem dX4_carryOut_153 : decode cX4_carryOut 153 = .ok (.irem, 1) := by decide +kernel
theorem dX4_carryOut_154 : decode cX4_carryOut 154 = .ok (.invokevirtual 97, 3) := by decide +kernel
theorem dX4_carryOut_157 : decode cX4_carryOut 157 = .ok (.goto 32, 3) := by decide +kernel
theorem dX4_carryOut_160 : decode cX4_carryOut 160 = .ok (.aload_n 0, 1) := by decide +kernel
theorem dX4_carryOut_161 : decode cX4_carryOut 161 = .ok (.iload_n 3, 1) := by decide +kernel
theorem dX4_carryOut_162 : decode cX4_carryOut 162 = .ok (.iload_n 2, 1) := by decide +kernel
theorem dX4_carryOut_163 : decode cX4_carryOut 163 = .ok (.invokevirtual 103, 3) := by decide +kernel
theorem dX4_carryOut_166 : decode cX4_carryOut 166 = .ok (.goto 23, 3) := by decide +kernel
theorem dX4_carryOut_169 : decode cX4_carryOut 169 = .ok (.aload_n 0, 1) := by decide +kernel
theorem dX4_carryOut_170 : decode cX4_carryOut 170 = .ok (.invokevirtual 106, 3) := by decide +kernel
theorem dX4_carryOut_173 : decode cX4_carryOut 173 = .ok (.goto 16, 3) := by decide +kernel
theorem dX4_carryOut_176 : decode cX4_carryOut 176 = .ok (.aload_n 0, 1) := by decide +kernel
theorem dX4_carryOut_177 : decode cX4_carryOut 177 = .ok (.iload_n 2, 1) := by decide +kernel
theorem dX4_carryOut_178 : decode cX4_carryOut 178 = .ok (.invokevirtual 86, 3) := by decide +kernel
theorem dX4_carryOut_181 : decode cX4_carryOut 181 = .ok (.goto 8, 3) := by decide +kernel
theorem dX4_carryOut_184 : decode cX4_carryOut 184 = .ok (.aload_n 0, 1) := by decide +kernel
theorem dX4_carryOut_185 : decode cX4_carryOut 185 = .ok (.iconst 1, 1) := by decide +kernel
theorem dX4_carryOut_186 : decode cX4_carryOut 186 = .ok (.putfield 49, 3) := by decide +kernel
theorem dX4_carryOut_189 : decode cX4_carryOut 189 = .ok (.return_, 1) := by decide +kernel
theorem dX4_increase_0 : decode cX4_increase 0 = .ok (.aload_n 0, 1) := by decide +kernel
theorem dX4_increase_1 : decode cX4_increase 1 = .ok (.getfield 42, 3) := by decide +kernel
theorem dX4_increase_4 : decode cX4_increase 4 = .ok (.iload_n 1, 1) := by decide +kernel
theorem dX4_increase_5 : decode cX4_increase 5 = .ok (.iadd, 1) := by decide +kernel
theorem dX4_increase_6 : decode cX4_increase 6 = .ok (.istore_n 2, 1) := by decide +kernel
theorem dX4_increase_7 : decode cX4_increase 7 = .ok (.aload_n 0, 1) := by decide +kernel
theorem dX4_increase_8 : decode cX4_increase 8 = .ok (.iload_n 2, 1) := by decide +kernel
theorem dX4_increase_9 : decode cX4_increase 9 = .ok (.sipush 999, 3) := by decide +kernel
theorem dX4_increase_12 : decode cX4_increase 12 = .ok (.if_icmp .le 13, 3) := by decide +kernel
theorem dX4_increase_15 : decode cX4_increase 15 = .ok (.iload_n 2, 1) := by decide +kernel
theorem dX4_increase_16 : decode cX4_increase 16 = .ok (.sipush 999, 3) := by decide +kernel
theorem dX4_increase_19 : decode cX4_increase 19 = .ok (.isub, 1) := by decide +kernel
theorem dX4_increase_20 : decode cX4_increase 20 = .ok (.iconst 1, 1) := by decide +kernel
theorem dX4_increase_21 : decode cX4_increase 21 = .ok (.isub, 1) := by decide +kernel
theorem dX4_increase_22 : decode cX4_increase 22 = .ok (.goto 4, 3) := by decide +kernel
theorem dX4_increase_25 : decode cX4_increase 25 = .ok (.iload_n 2, 1) := by decide +kernel
theorem dX4_increase_26 : decode cX4_increase 26 = .ok (.putfield 42, 3) := by decide +kernel
theorem dX4_increase_29 : decode cX4_increase 29 = .ok (.return_, 1) := by decide +kernel
theorem dX4_callFrom_0 : decode cX4_callFrom 0 = .ok (.aload_n 0, 1) := by decide +kernel
theorem dX4_callFrom_1 : decode cX4_callFrom 1 = .ok (.getfield 21, 3) := by decide +kernel
theorem dX4_callFrom_4 : decode cX4_callFrom 4 = .ok (.iload_n 1, 1) := by decide +kernel
theorem dX4_callFrom_5 : decode cX4_callFrom 5 = .ok (.aload_n 0, 1) := by decide +kernel
theorem dX4_callFrom_6 : decode cX4_callFrom 6 = .ok (.getfield 12, 3) := by decide +kernel
theorem dX4_callFrom_9 : decode cX4_callFrom 9 = .ok (.getfield 93, 3) := by decide +kernel
theorem dX4_callFrom_12 : decode cX4_callFrom 12 = .ok (.iload_n 1, 1) := by decide +kernel
theorem dX4_callFrom_13 : decode cX4_callFrom 13 = .ok (.invokevirtual 109, 3) := by decide +kernel
theorem dX4_callFrom_16 : decode cX4_callFrom 16 = .ok (.aload_n 0, 1) := by decide +kernel
theorem dX4_callFrom_17 : decode cX4_callFrom 17 = .ok (.getfield 46, 3) := by decide +kernel
theorem dX4_callFrom_20 : decode cX4_callFrom 20 = .ok (.invokevirtual 112, 3) := by decide +kernel
theorem dX4_callFrom_23 : decode cX4_callFrom 23 = .ok (.aload_n 0, 1) := by decide +kernel
theorem dX4_callFrom_24 : decode cX4_callFrom 24 = .ok (.getfield 12, 3) := by decide +kernel
theorem dX4_callFrom_27 : decode cX4_callFrom 27 = .ok (.getfield 93, 3) := by decide +kernel
theorem dX4_callFrom_30 : decode cX4_callFrom 30 = .ok (.iload_n 1, 1) := by decide +kernel
theorem dX4_callFrom_31 : decode cX4_callFrom 31 = .ok (.iload_n 2, 1) := by decide +kernel
theorem dX4_callFrom_32 : decode cX4_callFrom 32 = .ok (.bipush 10, 2) := by decide +kernel
theorem dX4_callFrom_34 : decode cX4_callFrom 34 = .ok (.idiv, 1) := by decide +kernel
theorem dX4_callFrom_35 : decode cX4_callFrom 35 = .ok (.invokevirtual 97, 3) := by decide +kernel
theorem dX4_callFrom_38 : decode cX4_callFrom 38 = .ok (.aload_n 0, 1) := by decide +kernel

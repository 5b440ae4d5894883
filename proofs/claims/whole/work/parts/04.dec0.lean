theorem dX0_init_0 : decode cX0_init 0 = .ok (.aload_n 0, 1) := by decide +kernel
theorem dX0_init_1 : decode cX0_init 1 = .ok (.invokespecial 3, 3) := by decide +kernel
theorem dX0_init_4 : decode cX0_init 4 = .ok (.aload_n 0, 1) := by decide +kernel
theorem dX0_init_5 : decode cX0_init 5 = .ok (.new 9, 3) := by decide +kernel
theorem dX0_init_8 : decode cX0_init 8 = .ok (.dup, 1) := by decide +kernel
theorem dX0_init_9 : decode cX0_init 9 = .ok (.bipush 100, 2) := by decide +kernel
theorem dX0_init_11 : decode cX0_init 11 = .ok (.invokespecial 11, 3) := by decide +kernel
theorem dX0_init_14 : decode cX0_init 14 = .ok (.putfield 14, 3) := by decide +kernel
theorem dX0_init_17 : decode cX0_init 17 = .ok (.aload_n 0, 1) := by decide +kernel
theorem dX0_init_18 : decode cX0_init 18 = .ok (.new 9, 3) := by decide +kernel
theorem dX0_init_21 : decode cX0_init 21 = .ok (.dup, 1) := by decide +kernel
theorem dX0_init_22 : decode cX0_init 22 = .ok (.bipush 8, 2) := by decide +kernel
theorem dX0_init_24 : decode cX0_init 24 = .ok (.invokespecial 11, 3) := by decide +kernel
theorem dX0_init_27 : decode cX0_init 27 = .ok (.putfield 20, 3) := by decide +kernel
theorem dX0_init_30 : decode cX0_init 30 = .ok (.aload_n 0, 1) := by decide +kernel
theorem dX0_init_31 : decode cX0_init 31 = .ok (.new 9, 3) := by decide +kernel
theorem dX0_init_34 : decode cX0_init 34 = .ok (.dup, 1) := by decide +kernel
theorem dX0_init_35 : decode cX0_init 35 = .ok (.iconst 4, 1) := by decide +kernel
theorem dX0_init_36 : decode cX0_init 36 = .ok (.invokespecial 11, 3) := by decide +kernel
theorem dX0_init_39 : decode cX0_init 39 = .ok (.putfield 23, 3) := by decide +kernel
theorem dX0_init_42 : decode cX0_init 42 = .ok (.aload_n 0, 1) := by decide +kernel
theorem dX0_init_43 : decode cX0_init 43 = .ok (.new 9, 3) := by decide +kernel
theorem dX0_init_46 : decode cX0_init 46 = .ok (.dup, 1) := by decide +kernel
theorem dX0_init_47 : decode cX0_init 47 = .ok (.bipush 8, 2) := by decide +kernel
theorem dX0_init_49 : decode cX0_init 49 = .ok (.invokespecial 11, 3) := by decide +kernel
theorem dX0_init_52 : decode cX0_init 52 = .ok (.putfield 26, 3) := by decide +kernel
theorem dX0_init_55 : decode cX0_init 55 = .ok (.aload_n 0, 1) := by decide +kernel
theorem dX0_init_56 : decode cX0_init 56 = .ok (.new 9, 3) := by decide +kernel
theorem dX0_init_59 : decode cX0_init 59 = .ok (.dup, 1) := by decide +kernel
theorem dX0_init_60 : decode cX0_init 60 = .ok (.bipush 8, 2) := by decide +kernel
theorem dX0_init_62 : decode cX0_init 62 = .ok (.invokespecial 11, 3) := by decide +kernel
theorem dX0_init_65 : decode cX0_init 65 = .ok (.putfield 29, 3) := by decide +kernel
theorem dX0_init_68 : decode cX0_init 68 = .ok (.iconst 0, 1) := by decide +kernel
theorem dX0_init_69 : decode cX0_init 69 = .ok (.istore_n 1, 1) := by decide +kernel
theorem dX0_init_70 : decode cX0_init 70 = .ok (.iload_n 1, 1) := by decide +kernel
theorem dX0_init_71 : decode cX0_init 71 = .ok (.iconst 4, 1) := by decide +kernel
theorem dX0_init_72 : decode cX0_init 72 = .ok (.if_icmp .ge 18, 3) := by decide +kernel
theorem dX0_init_75 : decode cX0_init 75 = .ok (.aload_n 0, 1) := by decide +kernel
theorem dX0_init_76 : decode cX0_init 76 = .ok (.getfield 23, 3) := by decide +kernel
theorem dX0_init_79 : decode cX0_init 79 = .ok (.iload_n 1, 1) := by decide +kernel
theorem dX0_init_80 : decode cX0_init 80 = .ok (.iload_n 1, 1) := by decide +kernel
theorem dX0_init_81 : decode cX0_init 81 = .ok (.invokevirtual 32, 3) := by decide +kernel
theorem dX0_init_84 : decode cX0_init 84 = .ok (.iinc 1 1, 3) := by decide +kernel
theorem dX0_init_87 : decode cX0_init 87 = .ok (.goto (-17), 3) := by decide +kernel
theorem dX0_init_90 : decode cX0_init 90 = .ok (.return_, 1) := by decide +kernel
theorem dX0_copyFrom_0 : decode cX0_copyFrom 0 = .ok (.aload_n 0, 1) := by decide +kernel
theorem dX0_copyFrom_1 : decode cX0_copyFrom 1 = .ok (.getfield 14, 3) := by decide +kernel
theorem dX0_copyFrom_4 : decode cX0_copyFrom 4 = .ok (.aload_n 1, 1) := by decide +kernel
theorem dX0_copyFrom_5 : decode cX0_copyFrom 5 = .ok (.getfield 14, 3) := by decide +kernel
theorem dX0_copyFrom_8 : decode cX0_copyFrom 8 = .ok (.invokevirtual 36, 3) := by decide +kernel
theorem dX0_copyFrom_11 : decode cX0_copyFrom 11 = .ok (.aload_n 0, 1) := by decide +kernel
theorem dX0_copyFrom_12 : decode cX0_copyFrom 12 = .ok (.getfield 20, 3) := by decide +kernel
theorem dX0_copyFrom_15 : decode cX0_copyFrom 15 = .ok (.aload_n 1, 1) := by decide +kernel
theorem dX0_copyFrom_16 : decode cX0_copyFrom 16 = .ok (.getfield 20, 3) := by decide +kernel
theorem dX0_copyFrom_19 : decode cX0_copyFrom 19 = .ok (.invokevirtual 36, 3) := by decide +kernel
theorem dX0_copyFrom_22 : decode cX0_copyFrom 22 = .ok (.aload_n 0, 1) := by decide +kernel
theorem dX0_copyFrom_23 : decode cX0_copyFrom 23 = .ok (.getfield 23, 3) := by decide +kernel
theorem dX0_copyFrom_26 : decode cX0_copyFrom 26 = .ok (.aload_n 1, 1) := by decide +kernel
theorem dX0_copyFrom_27 : decode cX0_copyFrom 27 = .ok (.getfield 23, 3) := by decide +kernel
theorem dX0_copyFrom_30 : decode cX0_copyFrom 30 = .ok (.invokevirtual 36, 3) := by decide +kernel
theorem dX0_copyFrom_33 : decode cX0_copyFrom 33 = .ok (.aload_n 0, 1) := by decide +kernel
theorem dX0_copyFrom_34 : decode cX0_copyFrom 34 = .ok (.getfield 26, 3) := by decide +kernel
theorem dX0_copyFrom_37 : decode cX0_copyFrom 37 = .ok (.aload_n 1, 1) := by decide +kernel
theorem dX0_copyFrom_38 : decode cX0_copyFrom 38 = .ok (.getfield 26, 3) := by decide +kernel
theorem dX0_copyFrom_41 : decode cX0_copyFrom 41 = .ok (.invokevirtual 36, 3) := by decide +kernel
theorem dX0_copyFrom_44 : decode cX0_copyFrom 44 = .ok (.aload_n 0, 1) := by decide +kernel
theorem dX0_copyFrom_45 : decode cX0_copyFrom 45 = .ok (.getfield 29, 3) := by decide +kernel
theorem dX0_copyFrom_48 : decode cX0_copyFrom 48 = .ok (.aload_n 1, 1) := by decide +kernel
theorem dX0_copyFrom_49 : decode cX0_copyFrom 49 = .ok (.getfield 29, 3) := by decide +kernel
theorem dX0_copyFrom_52 : decode cX0_copyFrom 52 = .ok (.invokevirtual 36, 3) := by decide +kernel
theorem dX0_copyFrom_55 : decode cX0_copyFrom 55 = .ok (.return_, 1) := by decide +kernel
theorem dX0_numberIn_0 : decode cX0_numberIn 0 = .ok (.aload_n 0, 1) := by decide +kernel
theorem dX0_numberIn_1 : decode cX0_numberIn 1 = .ok (.getfield 14, 3) := by decide +kernel
theorem dX0_numberIn_4 : decode cX0_numberIn 4 = .ok (.iload_n 1, 1) := by decide +kernel
theorem dX0_numberIn_5 : decode cX0_numberIn 5 = .ok (.iload_n 2, 1) := by decide +kernel
theorem dX0_numberIn_6 : decode cX0_numberIn 6 = .ok (.invokestatic 40, 3) := by decide +kernel
theorem dX0_numberIn_9 : decode cX0_numberIn 9 = .ok (.invokevirtual 44, 3) := by decide +kernel
theorem dX0_numberIn_12 : decode cX0_numberIn 12 = .ok (.ireturn, 1) := by decide +kernel
theorem dX0_fill_0 : decode cX0_fill 0 = .ok (.aload_n 0, 1) := by decide +kernel
theorem dX0_fill_1 : decode cX0_fill 1 = .ok (.getfield 14, 3) := by decide +kernel
theorem dX0_fill_4 : decode cX0_fill 4 = .ok (.iload_n 1, 1) := by decide +kernel
theorem dX0_fill_5 : decode cX0_fill 5 = .ok (.iload_n 2, 1) := by decide +kernel
theorem dX0_fill_6 : decode cX0_fill 6 = .ok (.invokestatic 40, 3) := by decide +kernel
theorem dX0_fill_9 : decode cX0_fill 9 = .ok (.iload_n 3, 1) := by decide +kernel
theorem dX0_fill_10 : decode cX0_fill 10 = .ok (.invokevirtual 32, 3) := by decide +kernel
theorem dX0_fill_13 : decode cX0_fill 13 = .ok (.return_, 1) := by decide +kernel
theorem dX0_bankAt_0 : decode cX0_bankAt 0 = .ok (.aload_n 0, 1) := by decide +kernel
theorem dX0_bankAt_1 : decode cX0_bankAt 1 = .ok (.getfield 23, 3) := by decide +kernel
theorem dX0_bankAt_4 : decode cX0_bankAt 4 = .ok (.iload_n 1, 1) := by decide +kernel
theorem dX0_bankAt_5 : decode cX0_bankAt 5 = .ok (.bipush 16, 2) := by decide +kernel
theorem dX0_bankAt_7 : decode cX0_bankAt 7 = .ok (.idiv, 1) := by decide +kernel
theorem dX0_bankAt_8 : decode cX0_bankAt 8 = .ok (.invokevirtual 44, 3) := by decide +kernel
theorem dX0_bankAt_11 : decode cX0_bankAt 11 = .ok (.ireturn, 1) := by decide +kernel
theorem dX0_numberAt_0 : decode cX0_numberAt 0 = .ok (.aload_n 0, 1) := by decide +kernel
theorem dX0_numberAt_1 : decode cX0_numberAt 1 = .ok (.aload_n 0, 1) := by decide +kernel
theorem dX0_numberAt_2 : decode cX0_numberAt 2 = .ok (.iload_n 1, 1) := by decide +kernel
theorem dX0_numberAt_3 : decode cX0_numberAt 3 = .ok (.invokevirtual 48, 3) := by decide +kernel
theorem dX0_numberAt_6 : decode cX0_numberAt 6 = .ok (.iload_n 1, 1) := by decide +kernel
theorem dX0_numberAt_7 : decode cX0_numberAt 7 = .ok (.bipush 16, 2) := by decide +kernel
theorem dX0_numberAt_9 : decode cX0_numberAt 9 = .ok (.irem, 1) := by decide +kernel
theorem dX0_numberAt_10 : decode cX0_numberAt 10 = .ok (.invokevirtual 51, 3) := by decide +kernel
theorem dX0_numberAt_13 : decode cX0_numberAt 13 = .ok (.ireturn, 1) := by decide +kernel
theorem dX0_storeUnlessAlone_0 : decode cX0_storeUnlessAlone 0 = .ok (.aload_n 0, 1) := by decide +kernel
theorem dX0_storeUnlessAlone_1 : decode cX0_storeUnlessAlone 1 = .ok (.iload_n 1, 1) := by decide +kernel
theorem dX0_storeUnlessAlone_2 : decode cX0_storeUnlessAlone 2 = .ok (.invokevirtual 48, 3) := by decide +kernel
theorem dX0_storeUnlessAlone_5 : decode cX0_storeUnlessAlone 5 = .ok (.istore_n 3, 1) := by decide +kernel
theorem dX0_storeUnlessAlone_6 : decode cX0_storeUnlessAlone 6 = .ok (.aload_n 0, 1) := by decide +kernel
theorem dX0_storeUnlessAlone_7 : decode cX0_storeUnlessAlone 7 = .ok (.iload_n 3, 1) := by decide +kernel
theorem dX0_storeUnlessAlone_8 : decode cX0_storeUnlessAlone 8 = .ok (.invokevirtual 54, 3) := by decide +kernel
theorem dX0_storeUnlessAlone_11 : decode cX0_storeUnlessAlone 11 = .ok (.ifCond .eq 23, 3) := by decide +kernel
theorem dX0_storeUnlessAlone_14 : decode cX0_storeUnlessAlone 14 = .ok (.aload_n 0, 1) := by decide +kernel
theorem dX0_storeUnlessAlone_15 : decode cX0_storeUnlessAlone 15 = .ok (.getfield 29, 3) := by decide +kernel
theorem dX0_storeUnlessAlone_18 : decode cX0_storeUnlessAlone 18 = .ok (.iload_n 3, 1) := by decide +kernel
theorem dX0_storeUnlessAlone_19 : decode cX0_storeUnlessAlone 19 = .ok (.aload_n 0, 1) := by decide +kernel
theorem dX0_storeUnlessAlone_20 : decode cX0_storeUnlessAlone 20 = .ok (.getfield 29, 3) := by decide +kernel
theorem dX0_storeUnlessAlone_23 : decode cX0_storeUnlessAlone 23 = .ok (.iload_n 3, 1) := by decide +kernel
theorem dX0_storeUnlessAlone_24 : decode cX0_storeUnlessAlone 24 = .ok (.invokevirtual 44, 3) := by decide +kernel
theorem dX0_storeUnlessAlone_27 : decode cX0_storeUnlessAlone 27 = .ok (.iconst 1, 1) := by decide +kernel
theorem dX0_storeUnlessAlone_28 : decode cX0_storeUnlessAlone 28 = .ok (.iadd, 1) := by decide +kernel
theorem dX0_storeUnlessAlone_29 : decode cX0_storeUnlessAlone 29 = .ok (.invokevirtual 32, 3) := by decide +kernel
theorem dX0_storeUnlessAlone_32 : decode cX0_storeUnlessAlone 32 = .ok (.iconst 0, 1) := by decide +kernel
theorem dX0_storeUnlessAlone_33 : decode cX0_storeUnlessAlone 33 = .ok (.ireturn, 1) := by decide +kernel
theorem dX0_storeUnlessAlone_34 : decode cX0_storeUnlessAlone 34 = .ok (.aload_n 0, 1) := by decide +kernel
theorem dX0_storeUnlessAlone_35 : decode cX0_storeUnlessAlone 35 = .ok (.iload_n 3, 1) := by decide +kernel
theorem dX0_storeUnlessAlone_36 : decode cX0_storeUnlessAlone 36 = .ok (.iload_n 1, 1) := by decide +kernel
theorem dX0_storeUnlessAlone_37 : decode cX0_storeUnlessAlone 37 = .ok (.bipush 16, 2) := by decide +kernel
theorem dX0_storeUnlessAlone_39 : decode cX0_storeUnlessAlone 39 = .ok (.irem, 1) := by decide +kernel
theorem dX0_storeUnlessAlone_40 : decode cX0_storeUnlessAlone 40 = .ok (.iload_n 2, 1) := by decide +kernel
theorem dX0_storeUnlessAlone_41 : decode cX0_storeUnlessAlone 41 = .ok (.invokevirtual 58, 3) := by decide +kernel
theorem dX0_storeUnlessAlone_44 : decode cX0_storeUnlessAlone 44 = .ok (.aload_n 0, 1) := by decide +kernel
theorem dX0_storeUnlessAlone_45 : decode cX0_storeUnlessAlone 45 = .ok (.getfield 26, 3) := by decide +kernel
theorem dX0_storeUnlessAlone_48 : decode cX0_storeUnlessAlone 48 = .ok (.iload_n 3, 1) := by decide +kernel
theorem dX0_storeUnlessAlone_49 : decode cX0_storeUnlessAlone 49 = .ok (.aload_n 0, 1) := by decide +kernel
theorem dX0_storeUnlessAlone_50 : decode cX0_storeUnlessAlone 50 = .ok (.getfield 26, 3) := by decide +kernel
theorem dX0_storeUnlessAlone_53 : decode cX0_storeUnlessAlone 53 = .ok (.iload_n 3, 1) := by decide +kernel
theorem dX0_storeUnlessAlone_54 : decode cX0_storeUnlessAlone 54 = .ok (.invokevirtual 44, 3) := by decide +kernel
theorem dX0_storeUnlessAlone_57 : decode cX0_storeUnlessAlone 57 = .ok (.iconst 1, 1) := by decide +kernel
theorem dX0_storeUnlessAlone_58 : decode cX0_storeUnlessAlone 58 = .ok (.iadd, 1) := by decide +kernel
theorem dX0_storeUnlessAlone_59 : decode cX0_storeUnlessAlone 59 = .ok (.invokevirtual 32, 3) := by decide +kernel
theorem dX0_storeUnlessAlone_62 : decode cX0_storeUnlessAlone 62 = .ok (.iconst 1, 1) := by decide +kernel
theorem dX0_storeUnlessAlone_63 : decode cX0_storeUnlessAlone 63 = .ok (.ireturn, 1) := by decide +kernel
theorem dX0_isAlone_0 : decode cX0_isAlone 0 = .ok (.aload_n 0, 1) := by decide +kernel
theorem dX0_isAlone_1 : decode cX0_isAlone 1 = .ok (.getfield 20, 3) := by decide +kernel
theorem dX0_isAlone_4 : decode cX0_isAlone 4 = .ok (.iload_n 1, 1) := by decide +kernel
theorem dX0_isAlone_5 : decode cX0_isAlone 5 = .ok (.invokevirtual 44, 3) := by decide +kernel
theorem dX0_isAlone_8 : decode cX0_isAlone 8 = .ok (.iconst 1, 1) := by decide +kernel
theorem dX0_isAlone_9 : decode cX0_isAlone 9 = .ok (.if_icmp .ne 7, 3) := by decide +kernel
theorem dX0_isAlone_12 : decode cX0_isAlone 12 = .ok (.iconst 1, 1) := by decide +kernel
theorem dX0_isAlone_13 : decode cX0_isAlone 13 = .ok (.goto 4, 3) := by decide +kernel
theorem dX0_isAlone_16 : decode cX0_isAlone 16 = .ok (.iconst 0, 1) := by decide +kernel
theorem dX0_isAlone_17 : decode cX0_isAlone 17 = .ok (.ireturn, 1) := by decide +kernel
theorem dX0_differencesOf_0 : decode cX0_differencesOf 0 = .ok (.iconst 0, 1) := by decide +kernel
theorem dX0_differencesOf_1 : decode cX0_differencesOf 1 = .ok (.istore_n 3, 1) := by decide +kernel
theorem dX0_differencesOf_2 : decode cX0_differencesOf 2 = .ok (.iconst 0, 1) := by decide +kernel
theorem dX0_differencesOf_3 : decode cX0_differencesOf 3 = .ok (.istore 4, 2) := by decide +kernel
theorem dX0_differencesOf_5 : decode cX0_differencesOf 5 = .ok (.iload 4, 2) := by decide +kernel
theorem dX0_differencesOf_7 : decode cX0_differencesOf 7 = .ok (.bipush 12, 2) := by decide +kernel
theorem dX0_differencesOf_9 : decode cX0_differencesOf 9 = .ok (.if_icmp .ge 29, 3) := by decide +kernel
theorem dX0_differencesOf_12 : decode cX0_differencesOf 12 = .ok (.aload_n 0, 1) := by decide +kernel
theorem dX0_differencesOf_13 : decode cX0_differencesOf 13 = .ok (.iload_n 1, 1) := by decide +kernel
theorem dX0_differencesOf_14 : decode cX0_differencesOf 14 = .ok (.iload 4, 2) := by decide +kernel
theorem dX0_differencesOf_16 : decode cX0_differencesOf 16 = .ok (.invokevirtual 51, 3) := by decide +kernel
theorem dX0_differencesOf_19 : decode cX0_differencesOf 19 = .ok (.aload_n 0, 1) := by decide +kernel
theorem dX0_differencesOf_20 : decode cX0_differencesOf 20 = .ok (.iload_n 2, 1) := by decide +kernel
theorem dX0_differencesOf_21 : decode cX0_differencesOf 21 = .ok (.iload 4, 2) := by decide +kernel
theorem dX0_differencesOf_23 : decode cX0_differencesOf 23 = .ok (.invokevirtual 51, 3) := by decide +kernel
theorem dX0_differencesOf_26 : decode cX0_differencesOf 26 = .ok (.if_icmp .eq 6, 3) := by decide +kernel
theorem dX0_differencesOf_29 : decode cX0_differencesOf 29 = .ok (.iinc 3 1, 3) := by decide +kernel
theorem dX0_differencesOf_32 : decode cX0_differencesOf 32 = .ok (.iinc 4 1, 3) := by decide +kernel
theorem dX0_differencesOf_35 : decode cX0_differencesOf 35 = .ok (.goto (-30), 3) := by decide +kernel
theorem dX0_differencesOf_38 : decode cX0_differencesOf 38 = .ok (.iload_n 3, 1) := by decide +kernel
theorem dX0_differencesOf_39 : decode cX0_differencesOf 39 = .ok (.ireturn, 1) := by decide +kernel
theorem dX0_copyCells_0 : decode cX0_copyCells 0 = .ok (.iconst 0, 1) := by decide +kernel
theorem dX0_copyCells_1 : decode cX0_copyCells 1 = .ok (.istore_n 3, 1) := by decide +kernel
theorem dX0_copyCells_2 : decode cX0_copyCells 2 = .ok (.iload_n 3, 1) := by decide +kernel
theorem dX0_copyCells_3 : decode cX0_copyCells 3 = .ok (.bipush 12, 2) := by decide +kernel
theorem dX0_copyCells_5 : decode cX0_copyCells 5 = .ok (.if_icmp .ge 21, 3) := by decide +kernel
theorem dX0_copyCells_8 : decode cX0_copyCells 8 = .ok (.aload_n 0, 1) := by decide +kernel
theorem dX0_copyCells_9 : decode cX0_copyCells 9 = .ok (.iload_n 2, 1) := by decide +kernel
theorem dX0_copyCells_10 : decode cX0_copyCells 10 = .ok (.iload_n 3, 1) := by decide +kernel
theorem dX0_copyCells_11 : decode cX0_copyCells 11 = .ok (.aload_n 0, 1) := by decide +kernel
theorem dX0_copyCells_12 : decode cX0_copyCells 12 = .ok (.iload_n 1, 1) := by decide +kernel
theorem dX0_copyCells_13 : decode cX0_copyCells 13 = .ok (.iload_n 3, 1) := by decide +kernel
theorem dX0_copyCells_14 : decode cX0_copyCells 14 = .ok (.invokevirtual 51, 3) := by decide +kernel
theorem dX0_copyCells_17 : decode cX0_copyCells 17 = .ok (.invokevirtual 58, 3) := by decide +kernel
theorem dX0_copyCells_20 : decode cX0_copyCells 20 = .ok (.iinc 3 1, 3) := by decide +kernel
theorem dX0_copyCells_23 : decode cX0_copyCells 23 = .ok (.goto (-21), 3) := by decide +kernel
theorem dX0_copyCells_26 : decode cX0_copyCells 26 = .ok (.return_, 1) := by decide +kernel
theorem dX0_twinOf_0 : decode cX0_twinOf 0 = .ok (.iload_n 1, 1) := by decide +kernel
theorem dX0_twinOf_1 : decode cX0_twinOf 1 = .ok (.bipush 16, 2) := by decide +kernel
theorem dX0_twinOf_3 : decode cX0_twinOf 3 = .ok (.irem, 1) := by decide +kernel
theorem dX0_twinOf_4 : decode cX0_twinOf 4 = .ok (.istore_n 2, 1) := by decide +kernel
theorem dX0_twinOf_5 : decode cX0_twinOf 5 = .ok (.iconst 0, 1) := by decide +kernel
theorem dX0_twinOf_6 : decode cX0_twinOf 6 = .ok (.istore_n 3, 1) := by decide +kernel
theorem dX0_twinOf_7 : decode cX0_twinOf 7 = .ok (.iload_n 3, 1) := by decide +kernel
theorem dX0_twinOf_8 : decode cX0_twinOf 8 = .ok (.iconst 4, 1) := by decide +kernel
theorem dX0_twinOf_9 : decode cX0_twinOf 9 = .ok (.if_icmp .ge 58, 3) := by decide +kernel
theorem dX0_twinOf_12 : decode cX0_twinOf 12 = .ok (.iload_n 3, 1) := by decide +kernel
theorem dX0_twinOf_13 : decode cX0_twinOf 13 = .ok (.bipush 16, 2) := by decide +kernel
theorem dX0_twinOf_15 : decode cX0_twinOf 15 = .ok (.imul, 1) := by decide +kernel
theorem dX0_twinOf_16 : decode cX0_twinOf 16 = .ok (.iload_n 2, 1) := by decide +kernel
theorem dX0_twinOf_17 : decode cX0_twinOf 17 = .ok (.iadd, 1) := by decide +kernel
theorem dX0_twinOf_18 : decode cX0_twinOf 18 = .ok (.istore 4, 2) := by decide +kernel
theorem dX0_twinOf_20 : decode cX0_twinOf 20 = .ok (.iload_n 2, 1) := by decide +kernel
theorem dX0_twinOf_21 : decode cX0_twinOf 21 = .ok (.bipush 12, 2) := by decide +kernel
theorem dX0_twinOf_23 : decode cX0_twinOf 23 = .ok (.if_icmp .ge 17, 3) := by decide +kernel
theorem dX0_twinOf_26 : decode cX0_twinOf 26 = .ok (.aload_n 0, 1) := by decide +kernel
theorem dX0_twinOf_27 : decode cX0_twinOf 27 = .ok (.iload 4, 2) := by decide +kernel
theorem dX0_twinOf_29 : decode cX0_twinOf 29 = .ok (.invokevirtual 48, 3) := by decide +kernel
theorem dX0_twinOf_32 : decode cX0_twinOf 32 = .ok (.aload_n 0, 1) := by decide +kernel
theorem dX0_twinOf_33 : decode cX0_twinOf 33 = .ok (.iload_n 1, 1) := by decide +kernel
theorem dX0_twinOf_34 : decode cX0_twinOf 34 = .ok (.invokevirtual 48, 3) := by decide +kernel
theorem dX0_twinOf_37 : decode cX0_twinOf 37 = .ok (.if_icmp .ne 7, 3) := by decide +kernel
theorem dX0_twinOf_40 : decode cX0_twinOf 40 = .ok (.iconst 1, 1) := by decide +kernel
theorem dX0_twinOf_41 : decode cX0_twinOf 41 = .ok (.goto 4, 3) := by decide +kernel
theorem dX0_twinOf_44 : decode cX0_twinOf 44 = .ok (.iconst 0, 1) := by decide +kernel
theorem dX0_twinOf_45 : decode cX0_twinOf 45 = .ok (.istore 5, 2) := by decide +kernel
theorem dX0_twinOf_47 : decode cX0_twinOf 47 = .ok (.iload 4, 2) := by decide +kernel
theorem dX0_twinOf_49 : decode cX0_twinOf 49 = .ok (.iload_n 1, 1) := by decide +kernel
theorem dX0_twinOf_50 : decode cX0_twinOf 50 = .ok (.if_icmp .eq 11, 3) := by decide +kernel
theorem dX0_twinOf_53 : decode cX0_twinOf 53 = .ok (.iload 5, 2) := by decide +kernel
theorem dX0_twinOf_55 : decode cX0_twinOf 55 = .ok (.ifCond .eq 6, 3) := by decide +kernel
theorem dX0_twinOf_58 : decode cX0_twinOf 58 = .ok (.iload 4, 2) := by decide +kernel
theorem dX0_twinOf_60 : decode cX0_twinOf 60 = .ok (.ireturn, 1) := by decide +kernel
theorem dX0_twinOf_61 : decode cX0_twinOf 61 = .ok (.iinc 3 1, 3) := by decide +kernel
theorem dX0_twinOf_64 : decode cX0_twinOf 64 = .ok (.goto (-57), 3) := by decide +kernel
theorem dX0_twinOf_67 : decode cX0_twinOf 67 = .ok (.bipush (-5), 2) := by decide +kernel
theorem dX0_twinOf_69 : decode cX0_twinOf 69 = .ok (.ireturn, 1) := by decide +kernel
theorem dX0_windowsOf_0 : decode cX0_windowsOf 0 = .ok (.iconst 0, 1) := by decide +kernel
theorem dX0_windowsOf_1 : decode cX0_windowsOf 1 = .ok (.istore_n 2, 1) := by decide +kernel
theorem dX0_windowsOf_2 : decode cX0_windowsOf 2 = .ok (.iconst 0, 1) := by decide +kernel
theorem dX0_windowsOf_3 : decode cX0_windowsOf 3 = .ok (.istore_n 3, 1) := by decide +kernel
theorem dX0_windowsOf_4 : decode cX0_windowsOf 4 = .ok (.iload_n 3, 1) := by decide +kernel
theorem dX0_windowsOf_5 : decode cX0_windowsOf 5 = .ok (.iconst 4, 1) := by decide +kernel
theorem dX0_windowsOf_6 : decode cX0_windowsOf 6 = .ok (.if_icmp .ge 27, 3) := by decide +kernel
theorem dX0_windowsOf_9 : decode cX0_windowsOf 9 = .ok (.aload_n 0, 1) := by decide +kernel
theorem dX0_windowsOf_10 : decode cX0_windowsOf 10 = .ok (.getfield 23, 3) := by decide +kernel
theorem dX0_windowsOf_13 : decode cX0_windowsOf 13 = .ok (.iload_n 3, 1) := by decide +kernel
theorem dX0_windowsOf_14 : decode cX0_windowsOf 14 = .ok (.invokevirtual 44, 3) := by decide +kernel
theorem dX0_windowsOf_17 : decode cX0_windowsOf 17 = .ok (.iload_n 1, 1) := by decide +kernel
theorem dX0_windowsOf_18 : decode cX0_windowsOf 18 = .ok (.if_icmp .ne 9, 3) := by decide +kernel
theorem dX0_windowsOf_21 : decode cX0_windowsOf 21 = .ok (.iload_n 2, 1) := by decide +kernel
theorem dX0_windowsOf_22 : decode cX0_windowsOf 22 = .ok (.iconst 1, 1) := by decide +kernel
theorem dX0_windowsOf_23 : decode cX0_windowsOf 23 = .ok (.iload_n 3, 1) := by decide +kernel
theorem dX0_windowsOf_24 : decode cX0_windowsOf 24 = .ok (.ishl, 1) := by decide +kernel
theorem dX0_windowsOf_25 : decode cX0_windowsOf 25 = .ok (.ior, 1) := by decide +kernel
theorem dX0_windowsOf_26 : decode cX0_windowsOf 26 = .ok (.istore_n 2, 1) := by decide +kernel
theorem dX0_windowsOf_27 : decode cX0_windowsOf 27 = .ok (.iinc 3 1, 3) := by decide +kernel
theorem dX0_windowsOf_30 : decode cX0_windowsOf 30 = .ok (.goto (-26), 3) := by decide +kernel
theorem dX0_windowsOf_33 : decode cX0_windowsOf 33 = .ok (.iload_n 2, 1) := by decide +kernel
theorem dX0_windowsOf_34 : decode cX0_windowsOf 34 = .ok (.ireturn, 1) := by decide +kernel
theorem dX0_usedCellsOf_0 : decode cX0_usedCellsOf 0 = .ok (.iconst 0, 1) := by decide +kernel
theorem dX0_usedCellsOf_1 : decode cX0_usedCellsOf 1 = .ok (.istore_n 2, 1) := by decide +kernel
theorem dX0_usedCellsOf_2 : decode cX0_usedCellsOf 2 = .ok (.iconst 0, 1) := by decide +kernel
theorem dX0_usedCellsOf_3 : decode cX0_usedCellsOf 3 = .ok (.istore_n 3, 1) := by decide +kernel
theorem dX0_usedCellsOf_4 : decode cX0_usedCellsOf 4 = .ok (.iload_n 3, 1) := by decide +kernel
theorem dX0_usedCellsOf_5 : decode cX0_usedCellsOf 5 = .ok (.bipush 12, 2) := by decide +kernel
theorem dX0_usedCellsOf_7 : decode cX0_usedCellsOf 7 = .ok (.if_icmp .ge 21, 3) := by decide +kernel
theorem dX0_usedCellsOf_10 : decode cX0_usedCellsOf 10 = .ok (.aload_n 0, 1) := by decide +kernel
theorem dX0_usedCellsOf_11 : decode cX0_usedCellsOf 11 = .ok (.iload_n 1, 1) := by decide +kernel
theorem dX0_usedCellsOf_12 : decode cX0_usedCellsOf 12 = .ok (.iload_n 3, 1) := by decide +kernel
theorem dX0_usedCellsOf_13 : decode cX0_usedCellsOf 13 = .ok (.invokevirtual 51, 3) := by decide +kernel
theorem dX0_usedCellsOf_16 : decode cX0_usedCellsOf 16 = .ok (.ifCond .eq 6, 3) := by decide +kernel
theorem dX0_usedCellsOf_19 : decode cX0_usedCellsOf 19 = .ok (.iinc 2 1, 3) := by decide +kernel
theorem dX0_usedCellsOf_22 : decode cX0_usedCellsOf 22 = .ok (.iinc 3 1, 3) := by decide +kernel
theorem dX0_usedCellsOf_25 : decode cX0_usedCellsOf 25 = .ok (.goto (-21), 3) := by decide +kernel
theorem dX0_usedCellsOf_28 : decode cX0_usedCellsOf 28 = .ok (.iload_n 2, 1) := by decide +kernel
theorem dX0_usedCellsOf_29 : decode cX0_usedCellsOf 29 = .ok (.ireturn, 1) := by decide +kernel
theorem dX0_indexOf_0 : decode cX0_indexOf 0 = .ok (.iload_n 1, 1) := by decide +kernel
theorem dX0_indexOf_1 : decode cX0_indexOf 1 = .ok (.bipush 12, 2) := by decide +kernel
theorem dX0_indexOf_3 : decode cX0_indexOf 3 = .ok (.if_icmp .ge 12, 3) := by decide +kernel
theorem dX0_indexOf_6 : decode cX0_indexOf 6 = .ok (.iload_n 0, 1) := by decide +kernel
theorem dX0_indexOf_7 : decode cX0_indexOf 7 = .ok (.bipush 12, 2) := by decide +kernel
theorem dX0_indexOf_9 : decode cX0_indexOf 9 = .ok (.imul, 1) := by decide +kernel
theorem dX0_indexOf_10 : decode cX0_indexOf 10 = .ok (.iload_n 1, 1) := by decide +kernel
theorem dX0_indexOf_11 : decode cX0_indexOf 11 = .ok (.iadd, 1) := by decide +kernel
theorem dX0_indexOf_12 : decode cX0_indexOf 12 = .ok (.goto 10, 3) := by decide +kernel
theorem dX0_indexOf_15 : decode cX0_indexOf 15 = .ok (.bipush 96, 2) := by decide +kernel
theorem dX0_indexOf_17 : decode cX0_indexOf 17 = .ok (.iload_n 1, 1) := by decide +kernel
theorem dX0_indexOf_18 : decode cX0_indexOf 18 = .ok (.iadd, 1) := by decide +kernel
theorem dX0_indexOf_19 : decode cX0_indexOf 19 = .ok (.bipush 12, 2) := by decide +kernel
theorem dX0_indexOf_21 : decode cX0_indexOf 21 = .ok (.isub, 1) := by decide +kernel
theorem dX0_indexOf_22 : decode cX0_indexOf 22 = .ok (.ireturn, 1) := by decide +kernel
theorem dX1_init_0 : decode cX1_init 0 = .ok (.aload_n 0, 1) := by decide +kernel
theorem dX1_init_1 : decode cX1_init 1 = .ok (.invokespecial 3, 3) := by decide +kernel
theorem dX1_init_4 : decode cX1_init 4 = .ok (.aload_n 0, 1) := by decide +kernel
theorem dX1_init_5 : decode cX1_init 5 = .ok (.new 9, 3) := by decide +kernel
theorem dX1_init_8 : decode cX1_init 8 = .ok (.dup, 1) := by decide +kernel
theorem dX1_init_9 : decode cX1_init 9 = .ok (.bipush 16, 2) := by decide +kernel
theorem dX1_init_11 : decode cX1_init 11 = .ok (.invokespecial 11, 3) := by decide +kernel
theorem dX1_init_14 : decode cX1_init 14 = .ok (.putfield 14, 3) := by decide +kernel
theorem dX1_init_17 : decode cX1_init 17 = .ok (.return_, 1) := by decide +kernel
theorem dX1_readFrom_0 : decode cX1_readFrom 0 = .ok (.aload_n 0, 1) := by decide +kernel
theorem dX1_readFrom_1 : decode cX1_readFrom 1 = .ok (.iconst 0, 1) := by decide +kernel
theorem dX1_readFrom_2 : decode cX1_readFrom 2 = .ok (.putfield 20, 3) := by decide +kernel
theorem dX1_readFrom_5 : decode cX1_readFrom 5 = .ok (.aload_n 0, 1) := by decide +kernel
theorem dX1_readFrom_6 : decode cX1_readFrom 6 = .ok (.iconst 0, 1) := by decide +kernel
theorem dX1_readFrom_7 : decode cX1_readFrom 7 = .ok (.putfield 24, 3) := by decide +kernel
theorem dX1_readFrom_10 : decode cX1_readFrom 10 = .ok (.iconst 1, 1) := by decide +kernel
theorem dX1_readFrom_11 : decode cX1_readFrom 11 = .ok (.istore_n 2, 1) := by decide +kernel
theorem dX1_readFrom_12 : decode cX1_readFrom 12 = .ok (.iload_n 2, 1) := by decide +kernel
theorem dX1_readFrom_13 : decode cX1_readFrom 13 = .ok (.ifCond .eq 85, 3) := by decide +kernel
theorem dX1_readFrom_16 : decode cX1_readFrom 16 = .ok (.aload_n 0, 1) := by decide +kernel
theorem dX1_readFrom_17 : decode cX1_readFrom 17 = .ok (.getfield 20, 3) := by decide +kernel
theorem dX1_readFrom_20 : decode cX1_readFrom 20 = .ok (.bipush 80, 2) := by decide +kernel
theorem dX1_readFrom_22 : decode cX1_readFrom 22 = .ok (.if_icmp .ge 76, 3) := by decide +kernel
theorem dX1_readFrom_25 : decode cX1_readFrom 25 = .ok (.aload_n 0, 1) := by decide +kernel
theorem dX1_readFrom_26 : decode cX1_readFrom 26 = .ok (.getfield 14, 3) := by decide +kernel
theorem dX1_readFrom_29 : decode cX1_readFrom 29 = .ok (.aload_n 0, 1) := by decide +kernel
theorem dX1_readFrom_30 : decode cX1_readFrom 30 = .ok (.getfield 20, 3) := by decide +kernel
theorem dX1_readFrom_33 : decode cX1_readFrom 33 = .ok (.aload_n 0, 1) := by decide +kernel
theorem dX1_readFrom_34 : decode cX1_readFrom 34 = .ok (.aload_n 1, 1) := by decide +kernel
theorem dX1_readFrom_35 : decode cX1_readFrom 35 = .ok (.invokevirtual 27, 3) := by decide +kernel
theorem dX1_readFrom_38 : decode cX1_readFrom 38 = .ok (.invokevirtual 31, 3) := by decide +kernel
theorem dX1_readFrom_41 : decode cX1_readFrom 41 = .ok (.aload_n 0, 1) := by decide +kernel
theorem dX1_readFrom_42 : decode cX1_readFrom 42 = .ok (.dup, 1) := by decide +kernel
theorem dX1_readFrom_43 : decode cX1_readFrom 43 = .ok (.getfield 20, 3) := by decide +kernel
theorem dX1_readFrom_46 : decode cX1_readFrom 46 = .ok (.iconst 1, 1) := by decide +kernel
theorem dX1_readFrom_47 : decode cX1_readFrom 47 = .ok (.iadd, 1) := by decide +kernel
theorem dX1_readFrom_48 : decode cX1_readFrom 48 = .ok (.putfield 20, 3) := by decide +kernel
theorem dX1_readFrom_51 : decode cX1_readFrom 51 = .ok (.aload_n 0, 1) := by decide +kernel
theorem dX1_readFrom_52 : decode cX1_readFrom 52 = .ok (.getfield 35, 3) := by decide +kernel
theorem dX1_readFrom_55 : decode cX1_readFrom 55 = .ok (.ifCond .eq 20, 3) := by decide +kernel
theorem dX1_readFrom_58 : decode cX1_readFrom 58 = .ok (.aload_n 1, 1) := by decide +kernel
theorem dX1_readFrom_59 : decode cX1_readFrom 59 = .ok (.aload_n 0, 1) := by decide +kernel
theorem dX1_readFrom_60 : decode cX1_readFrom 60 = .ok (.getfield 24, 3) := by decide +kernel
theorem dX1_readFrom_63 : decode cX1_readFrom 63 = .ok (.invokevirtual 39, 3) := by decide +kernel
theorem dX1_readFrom_66 : decode cX1_readFrom 66 = .ok (.bipush 59, 2) := by decide +kernel
theorem dX1_readFrom_68 : decode cX1_readFrom 68 = .ok (.if_icmp .ne 7, 3) := by decide +kernel
theorem dX1_readFrom_71 : decode cX1_readFrom 71 = .ok (.iconst 1, 1) := by decide +kernel
theorem dX1_readFrom_72 : decode cX1_readFrom 72 = .ok (.goto 4, 3) := by decide +kernel
theorem dX1_readFrom_75 : decode cX1_readFrom 75 = .ok (.iconst 0, 1) := by decide +kernel
theorem dX1_readFrom_76 : decode cX1_readFrom 76 = .ok (.istore_n 2, 1) := by decide +kernel
theorem dX1_readFrom_77 : decode cX1_readFrom 77 = .ok (.aload_n 0, 1) := by decide +kernel
theorem dX1_readFrom_78 : decode cX1_readFrom 78 = .ok (.dup, 1) := by decide +kernel
theorem dX1_readFrom_79 : decode cX1_readFrom 79 = .ok (.getfield 24, 3) := by decide +kernel
theorem dX1_readFrom_82 : decode cX1_readFrom 82 = .ok (.iload_n 2, 1) := by decide +kernel
theorem dX1_readFrom_83 : decode cX1_readFrom 83 = .ok (.ifCond .eq 7, 3) := by decide +kernel
theorem dX1_readFrom_86 : decode cX1_readFrom 86 = .ok (.iconst 1, 1) := by decide +kernel
theorem dX1_readFrom_87 : decode cX1_readFrom 87 = .ok (.goto 4, 3) := by decide +kernel
theorem dX1_readFrom_90 : decode cX1_readFrom 90 = .ok (.iconst 0, 1) := by decide +kernel
theorem dX1_readFrom_91 : decode cX1_readFrom 91 = .ok (.iadd, 1) := by decide +kernel
theorem dX1_readFrom_92 : decode cX1_readFrom 92 = .ok (.putfield 24, 3) := by decide +kernel
theorem dX1_readFrom_95 : decode cX1_readFrom 95 = .ok (.goto (-83), 3) := by decide +kernel
theorem dX1_readFrom_98 : decode cX1_readFrom 98 = .ok (.aload_n 0, 1) := by decide +kernel
theorem dX1_readFrom_99 : decode cX1_readFrom 99 = .ok (.aload_n 0, 1) := by decide +kernel
theorem dX1_readFrom_100 : decode cX1_readFrom 100 = .ok (.getfield 35, 3) := by decide +kernel
theorem dX1_readFrom_103 : decode cX1_readFrom 103 = .ok (.ifCond .eq 19, 3) := by decide +kernel
theorem dX1_readFrom_106 : decode cX1_readFrom 106 = .ok (.aload_n 1, 1) := by decide +kernel
theorem dX1_readFrom_107 : decode cX1_readFrom 107 = .ok (.aload_n 0, 1) := by decide +kernel
theorem dX1_readFrom_108 : decode cX1_readFrom 108 = .ok (.getfield 24, 3) := by decide +kernel
theorem dX1_readFrom_111 : decode cX1_readFrom 111 = .ok (.invokevirtual 39, 3) := by decide +kernel
theorem dX1_readFrom_114 : decode cX1_readFrom 114 = .ok (.iconst (-1), 1) := by decide +kernel
theorem dX1_readFrom_115 : decode cX1_readFrom 115 = .ok (.if_icmp .ne 7, 3) := by decide +kernel
theorem dX1_readFrom_118 : decode cX1_readFrom 118 = .ok (.iconst 1, 1) := by decide +kernel
theorem dX1_readFrom_119 : decode cX1_readFrom 119 = .ok (.goto 4, 3) := by decide +kernel
theorem dX1_readFrom_122 : decode cX1_readFrom 122 = .ok (.iconst 0, 1) := by decide +kernel
theorem dX1_readFrom_123 : decode cX1_readFrom 123 = .ok (.putfield 35, 3) := by decide +kernel
theorem dX1_readFrom_126 : decode cX1_readFrom 126 = .ok (.return_, 1) := by decide +kernel
theorem dX1_readOrder_0 : decode cX1_readOrder 0 = .ok (.aload_n 0, 1) := by decide +kernel
theorem dX1_readOrder_1 : decode cX1_readOrder 1 = .ok (.aload_n 1, 1) := by decide +kernel
theorem dX1_readOrder_2 : decode cX1_readOrder 2 = .ok (.invokevirtual 45, 3) := by decide +kernel
theorem dX1_readOrder_5 : decode cX1_readOrder 5 = .ok (.istore_n 2, 1) := by decide +kernel
theorem dX1_readOrder_6 : decode cX1_readOrder 6 = .ok (.iconst 0, 1) := by decide +kernel
theorem dX1_readOrder_7 : decode cX1_readOrder 7 = .ok (.istore_n 3, 1) := by decide +kernel
theorem dX1_readOrder_8 : decode cX1_readOrder 8 = .ok (.aload_n 0, 1) := by decide +kernel
theorem dX1_readOrder_9 : decode cX1_readOrder 9 = .ok (.getfield 35, 3) := by decide +kernel
theorem dX1_readOrder_12 : decode cX1_readOrder 12 = .ok (.ifCond .eq 21, 3) := by decide +kernel
theorem dX1_readOrder_15 : decode cX1_readOrder 15 = .ok (.iload_n 2, 1) := by decide +kernel
theorem dX1_readOrder_16 : decode cX1_readOrder 16 = .ok (.invokestatic 48, 3) := by decide +kernel
theorem dX1_readOrder_19 : decode cX1_readOrder 19 = .ok (.iconst (-1), 1) := by decide +kernel
theorem dX1_readOrder_20 : decode cX1_readOrder 20 = .ok (.if_icmp .eq 13, 3) := by decide +kernel
theorem dX1_readOrder_23 : decode cX1_readOrder 23 = .ok (.aload_n 0, 1) := by decide +kernel
theorem dX1_readOrder_24 : decode cX1_readOrder 24 = .ok (.aload_n 1, 1) := by decide +kernel
theorem dX1_readOrder_25 : decode cX1_readOrder 25 = .ok (.iload_n 2, 1) := by decide +kernel
theorem dX1_readOrder_26 : decode cX1_readOrder 26 = .ok (.invokestatic 48, 3) := by decide +kernel
theorem dX1_readOrder_29 : decode cX1_readOrder 29 = .ok (.invokevirtual 51, 3) := by decide +kernel
theorem dX1_readOrder_32 : decode cX1_readOrder 32 = .ok (.istore_n 3, 1) := by decide +kernel
theorem dX1_readOrder_33 : decode cX1_readOrder 33 = .ok (.aload_n 0, 1) := by decide +kernel
theorem dX1_readOrder_34 : decode cX1_readOrder 34 = .ok (.getfield 35, 3) := by decide +kernel
theorem dX1_readOrder_37 : decode cX1_readOrder 37 = .ok (.ifCond .eq 26, 3) := by decide +kernel
theorem dX1_readOrder_40 : decode cX1_readOrder 40 = .ok (.iload_n 2, 1) := by decide +kernel
theorem dX1_readOrder_41 : decode cX1_readOrder 41 = .ok (.invokestatic 55, 3) := by decide +kernel
theorem dX1_readOrder_44 : decode cX1_readOrder 44 = .ok (.iconst (-1), 1) := by decide +kernel
theorem dX1_readOrder_45 : decode cX1_readOrder 45 = .ok (.if_icmp .eq 18, 3) := by decide +kernel
theorem dX1_readOrder_48 : decode cX1_readOrder 48 = .ok (.iload_n 3, 1) := by decide +kernel
theorem dX1_readOrder_49 : decode cX1_readOrder 49 = .ok (.bipush 10, 2) := by decide +kernel
theorem dX1_readOrder_51 : decode cX1_readOrder 51 = .ok (.imul, 1) := by decide +kernel
theorem dX1_readOrder_52 : decode cX1_readOrder 52 = .ok (.aload_n 0, 1) := by decide +kernel
theorem dX1_readOrder_53 : decode cX1_readOrder 53 = .ok (.aload_n 1, 1) := by decide +kernel
theorem dX1_readOrder_54 : decode cX1_readOrder 54 = .ok (.iload_n 2, 1) := by decide +kernel
theorem dX1_readOrder_55 : decode cX1_readOrder 55 = .ok (.invokestatic 55, 3) := by decide +kernel
theorem dX1_readOrder_58 : decode cX1_readOrder 58 = .ok (.invokevirtual 51, 3) := by decide +kernel
theorem dX1_readOrder_61 : decode cX1_readOrder 61 = .ok (.iadd, 1) := by decide +kernel
theorem dX1_readOrder_62 : decode cX1_readOrder 62 = .ok (.istore_n 3, 1) := by decide +kernel
theorem dX1_readOrder_63 : decode cX1_readOrder 63 = .ok (.iload_n 2, 1) := by decide +kernel
theorem dX1_readOrder_64 : decode cX1_readOrder 64 = .ok (.bipush 100, 2) := by decide +kernel
theorem dX1_readOrder_66 : decode cX1_readOrder 66 = .ok (.imul, 1) := by decide +kernel
theorem dX1_readOrder_67 : decode cX1_readOrder 67 = .ok (.iload_n 3, 1) := by decide +kernel
theorem dX1_readOrder_68 : decode cX1_readOrder 68 = .ok (.iadd, 1) := by decide +kernel
theorem dX1_readOrder_69 : decode cX1_readOrder 69 = .ok (.ireturn, 1) := by decide +kernel
theorem dX1_readKind_0 : decode cX1_readKind 0 = .ok (.iconst 0, 1) := by decide +kernel
theorem dX1_readKind_1 : decode cX1_readKind 1 = .ok (.istore_n 2, 1) := by decide +kernel
theorem dX1_readKind_2 : decode cX1_readKind 2 = .ok (.iconst 0, 1) := by decide +kernel
theorem dX1_readKind_3 : decode cX1_readKind 3 = .ok (.istore_n 3, 1) := by decide +kernel
theorem dX1_readKind_4 : decode cX1_readKind 4 = .ok (.iconst 0, 1) := by decide +kernel
theorem dX1_readKind_5 : decode cX1_readKind 5 = .ok (.istore 4, 2) := by decide +kernel
theorem dX1_readKind_7 : decode cX1_readKind 7 = .ok (.iload 4, 2) := by decide +kernel
theorem dX1_readKind_9 : decode cX1_readKind 9 = .ok (.bipush 10, 2) := by decide +kernel
theorem dX1_readKind_11 : decode cX1_readKind 11 = .ok (.if_icmp .ge 33, 3) := by decide +kernel
theorem dX1_readKind_14 : decode cX1_readKind 14 = .ok (.aload_n 0, 1) := by decide +kernel
theorem dX1_readKind_15 : decode cX1_readKind 15 = .ok (.aload_n 1, 1) := by decide +kernel
theorem dX1_readKind_16 : decode cX1_readKind 16 = .ok (.iload 4, 2) := by decide +kernel
theorem dX1_readKind_18 : decode cX1_readKind 18 = .ok (.invokestatic 58, 3) := by decide +kernel
theorem dX1_readKind_21 : decode cX1_readKind 21 = .ok (.invokevirtual 62, 3) := by decide +kernel
theorem dX1_readKind_24 : decode cX1_readKind 24 = .ok (.istore 5, 2) := by decide +kernel
theorem dX1_readKind_26 : decode cX1_readKind 26 = .ok (.iload 5, 2) := by decide +kernel
theorem dX1_readKind_28 : decode cX1_readKind 28 = .ok (.iload_n 2, 1) := by decide +kernel
theorem dX1_readKind_29 : decode cX1_readKind 29 = .ok (.if_icmp .le 9, 3) := by decide +kernel
theorem dX1_readKind_32 : decode cX1_readKind 32 = .ok (.iload 5, 2) := by decide +kernel
theorem dX1_readKind_34 : decode cX1_readKind 34 = .ok (.istore_n 2, 1) := by decide +kernel
theorem dX1_readKind_35 : decode cX1_readKind 35 = .ok (.iload 4, 2) := by decide +kernel
theorem dX1_readKind_37 : decode cX1_readKind 37 = .ok (.istore_n 3, 1) := by decide +kernel
theorem dX1_readKind_38 : decode cX1_readKind 38 = .ok (.iinc 4 1, 3) := by decide +kernel
theorem dX1_readKind_41 : decode cX1_readKind 41 = .ok (.goto (-34), 3) := by decide +kernel
theorem dX1_readKind_44 : decode cX1_readKind 44 = .ok (.aload_n 0, 1) := by decide +kernel
theorem dX1_readKind_45 : decode cX1_readKind 45 = .ok (.dup, 1) := by decide +kernel
theorem dX1_readKind_46 : decode cX1_readKind 46 = .ok (.getfield 24, 3) := by decide +kernel
theorem dX1_readKind_49 : decode cX1_readKind 49 = .ok (.iload_n 2, 1) := by decide +kernel
theorem dX1_readKind_50 : decode cX1_readKind 50 = .ok (.iadd, 1) := by decide +kernel
theorem dX1_readKind_51 : decode cX1_readKind 51 = .ok (.putfield 24, 3) := by decide +kernel
theorem dX1_readKind_54 : decode cX1_readKind 54 = .ok (.aload_n 0, 1) := by decide +kernel
theorem dX1_readKind_55 : decode cX1_readKind 55 = .ok (.iload_n 2, 1) := by decide +kernel
theorem dX1_readKind_56 : decode cX1_readKind 56 = .ok (.iload_n 3, 1) := by decide +kernel
theorem dX1_readKind_57 : decode cX1_readKind 57 = .ok (.invokestatic 58, 3) := by decide +kernel
theorem dX1_readKind_60 : decode cX1_readKind 60 = .ok (.invokevirtual 66, 3) := by decide +kernel
theorem dX1_readKind_63 : decode cX1_readKind 63 = .ok (.if_icmp .ne 7, 3) := by decide +kernel
theorem dX1_readKind_66 : decode cX1_readKind 66 = .ok (.iconst 1, 1) := by decide +kernel
theorem dX1_readKind_67 : decode cX1_readKind 67 = .ok (.goto 4, 3) := by decide +kernel
theorem dX1_readKind_70 : decode cX1_readKind 70 = .ok (.iconst 0, 1) := by decide +kernel
theorem dX1_readKind_71 : decode cX1_readKind 71 = .ok (.putfield 35, 3) := by decide +kernel
theorem dX1_readKind_74 : decode cX1_readKind 74 = .ok (.iload_n 3, 1) := by decide +kernel
theorem dX1_readKind_75 : decode cX1_readKind 75 = .ok (.ireturn, 1) := by decide +kernel
theorem dX1_lengthOfBeginning_0 : decode cX1_lengthOfBeginning 0 = .ok (.iconst 0, 1) := by decide +kernel
theorem dX1_lengthOfBeginning_1 : decode cX1_lengthOfBeginning 1 = .ok (.istore_n 3, 1) := by decide +kernel
theorem dX1_lengthOfBeginning_2 : decode cX1_lengthOfBeginning 2 = .ok (.iload_n 3, 1) := by decide +kernel
theorem dX1_lengthOfBeginning_3 : decode cX1_lengthOfBeginning 3 = .ok (.aload_n 2, 1) := by decide +kernel
theorem dX1_lengthOfBeginning_4 : decode cX1_lengthOfBeginning 4 = .ok (.invokevirtual 66, 3) := by decide +kernel
theorem dX1_lengthOfBeginning_7 : decode cX1_lengthOfBeginning 7 = .ok (.if_icmp .ge 27, 3) := by decide +kernel
theorem dX1_lengthOfBeginning_10 : decode cX1_lengthOfBeginning 10 = .ok (.aload_n 1, 1) := by decide +kernel
theorem dX1_lengthOfBeginning_11 : decode cX1_lengthOfBeginning 11 = .ok (.aload_n 0, 1) := by decide +kernel
theorem dX1_lengthOfBeginning_12 : decode cX1_lengthOfBeginning 12 = .ok (.getfield 24, 3) := by decide +kernel
theorem dX1_lengthOfBeginning_15 : decode cX1_lengthOfBeginning 15 = .ok (.iload_n 3, 1) := by decide +kernel
theorem dX1_lengthOfBeginning_16 : decode cX1_lengthOfBeginning 16 = .ok (.iadd, 1) := by decide +kernel
theorem dX1_lengthOfBeginning_17 : decode cX1_lengthOfBeginning 17 = .ok (.invokevirtual 39, 3) := by decide +kernel
theorem dX1_lengthOfBeginning_20 : decode cX1_lengthOfBeginning 20 = .ok (.aload_n 2, 1) := by decide +kernel
theorem dX1_lengthOfBeginning_21 : decode cX1_lengthOfBeginning 21 = .ok (.iload_n 3, 1) := by decide +kernel
theorem dX1_lengthOfBeginning_22 : decode cX1_lengthOfBeginning 22 = .ok (.invokevirtual 72, 3) := by decide +kernel
theorem dX1_lengthOfBeginning_25 : decode cX1_lengthOfBeginning 25 = .ok (.if_icmp .ne 9, 3) := by decide +kernel
theorem dX1_lengthOfBeginning_28 : decode cX1_lengthOfBeginning 28 = .ok (.iinc 3 1, 3) := by decide +kernel
theorem dX1_lengthOfBeginning_31 : decode cX1_lengthOfBeginning 31 = .ok (.goto (-29), 3) := by decide +kernel
theorem dX1_lengthOfBeginning_34 : decode cX1_lengthOfBeginning 34 = .ok (.iload_n 3, 1) := by decide +kernel
theorem dX1_lengthOfBeginning_35 : decode cX1_lengthOfBeginning 35 = .ok (.ireturn, 1) := by decide +kernel
theorem dX1_readNumber_0 : decode cX1_readNumber 0 = .ok (.aload_n 0, 1) := by decide +kernel
theorem dX1_readNumber_1 : decode cX1_readNumber 1 = .ok (.aload_n 1, 1) := by decide +kernel
theorem dX1_readNumber_2 : decode cX1_readNumber 2 = .ok (.aload_n 0, 1) := by decide +kernel
theorem dX1_readNumber_3 : decode cX1_readNumber 3 = .ok (.getfield 24, 3) := by decide +kernel
theorem dX1_readNumber_6 : decode cX1_readNumber 6 = .ok (.invokevirtual 39, 3) := by decide +kernel
theorem dX1_readNumber_9 : decode cX1_readNumber 9 = .ok (.bipush 32, 2) := by decide +kernel
theorem dX1_readNumber_11 : decode cX1_readNumber 11 = .ok (.if_icmp .ne 7, 3) := by decide +kernel
theorem dX1_readNumber_14 : decode cX1_readNumber 14 = .ok (.iconst 1, 1) := by decide +kernel
theorem dX1_readNumber_15 : decode cX1_readNumber 15 = .ok (.goto 4, 3) := by decide +kernel
theorem dX1_readNumber_18 : decode cX1_readNumber 18 = .ok (.iconst 0, 1) := by decide +kernel
theorem dX1_readNumber_19 : decode cX1_readNumber 19 = .ok (.putfield 35, 3) := by decide +kernel
theorem dX1_readNumber_22 : decode cX1_readNumber 22 = .ok (.aload_n 0, 1) := by decide +kernel
theorem dX1_readNumber_23 : decode cX1_readNumber 23 = .ok (.getfield 35, 3) := by decide +kernel
theorem dX1_readNumber_26 : decode cX1_readNumber 26 = .ok (.ifCond .ne 5, 3) := by decide +kernel
theorem dX1_readNumber_29 : decode cX1_readNumber 29 = .ok (.iconst 0, 1) := by decide +kernel
theorem dX1_readNumber_30 : decode cX1_readNumber 30 = .ok (.ireturn, 1) := by decide +kernel
theorem dX1_readNumber_31 : decode cX1_readNumber 31 = .ok (.aload_n 0, 1) := by decide +kernel
theorem dX1_readNumber_32 : decode cX1_readNumber 32 = .ok (.dup, 1) := by decide +kernel
theorem dX1_readNumber_33 : decode cX1_readNumber 33 = .ok (.getfield 24, 3) := by decide +kernel
theorem dX1_readNumber_36 : decode cX1_readNumber 36 = .ok (.iconst 1, 1) := by decide +kernel
theorem dX1_readNumber_37 : decode cX1_readNumber 37 = .ok (.iadd, 1) := by decide +kernel
theorem dX1_readNumber_38 : decode cX1_readNumber 38 = .ok (.putfield 24, 3) := by decide +kernel
theorem dX1_readNumber_41 : decode cX1_readNumber 41 = .ok (.aload_n 1, 1) := by decide +kernel
theorem dX1_readNumber_42 : decode cX1_readNumber 42 = .ok (.aload_n 0, 1) := by decide +kernel
theorem dX1_readNumber_43 : decode cX1_readNumber 43 = .ok (.getfield 24, 3) := by decide +kernel
theorem dX1_readNumber_46 : decode cX1_readNumber 46 = .ok (.invokestatic 76, 3) := by decide +kernel
theorem dX1_readNumber_49 : decode cX1_readNumber 49 = .ok (.istore_n 3, 1) := by decide +kernel
theorem dX1_readNumber_50 : decode cX1_readNumber 50 = .ok (.aload_n 0, 1) := by decide +kernel
theorem dX1_readNumber_51 : decode cX1_readNumber 51 = .ok (.iload_n 3, 1) := by decide +kernel
theorem dX1_readNumber_52 : decode cX1_readNumber 52 = .ok (.ifCond .lt 12, 3) := by decide +kernel
theorem dX1_readNumber_55 : decode cX1_readNumber 55 = .ok (.iload_n 3, 1) := by decide +kernel
theorem dX1_readNumber_56 : decode cX1_readNumber 56 = .ok (.iload_n 2, 1) := by decide +kernel
theorem dX1_readNumber_57 : decode cX1_readNumber 57 = .ok (.if_icmp .gt 7, 3) := by decide +kernel
theorem dX1_readNumber_60 : decode cX1_readNumber 60 = .ok (.iconst 1, 1) := by decide +kernel
theorem dX1_readNumber_61 : decode cX1_readNumber 61 = .ok (.goto 4, 3) := by decide +kernel
theorem dX1_readNumber_64 : decode cX1_readNumber 64 = .ok (.iconst 0, 1) := by decide +kernel
theorem dX1_readNumber_65 : decode cX1_readNumber 65 = .ok (.putfield 35, 3) := by decide +kernel
theorem dX1_readNumber_68 : decode cX1_readNumber 68 = .ok (.aload_n 0, 1) := by decide +kernel
theorem dX1_readNumber_69 : decode cX1_readNumber 69 = .ok (.getfield 35, 3) := by decide +kernel
theorem dX1_readNumber_72 : decode cX1_readNumber 72 = .ok (.ifCond .ne 5, 3) := by decide +kernel
theorem dX1_readNumber_75 : decode cX1_readNumber 75 = .ok (.iconst 0, 1) := by decide +kernel
theorem dX1_readNumber_76 : decode cX1_readNumber 76 = .ok (.ireturn, 1) := by decide +kernel
theorem dX1_readNumber_77 : decode cX1_readNumber 77 = .ok (.aload_n 0, 1) := by decide +kernel
theorem dX1_readNumber_78 : decode cX1_readNumber 78 = .ok (.dup, 1) := by decide +kernel
theorem dX1_readNumber_79 : decode cX1_readNumber 79 = .ok (.getfield 24, 3) := by decide +kernel
theorem dX1_readNumber_82 : decode cX1_readNumber 82 = .ok (.iconst 1, 1) := by decide +kernel
theorem dX1_readNumber_83 : decode cX1_readNumber 83 = .ok (.iadd, 1) := by decide +kernel
theorem dX1_readNumber_84 : decode cX1_readNumber 84 = .ok (.putfield 24, 3) := by decide +kernel
theorem dX1_readNumber_87 : decode cX1_readNumber 87 = .ok (.aload_n 1, 1) := by decide +kernel
theorem dX1_readNumber_88 : decode cX1_readNumber 88 = .ok (.aload_n 0, 1) := by decide +kernel
theorem dX1_readNumber_89 : decode cX1_readNumber 89 = .ok (.getfield 24, 3) := by decide +kernel
theorem dX1_readNumber_92 : decode cX1_readNumber 92 = .ok (.invokestatic 76, 3) := by decide +kernel
theorem dX1_readNumber_95 : decode cX1_readNumber 95 = .ok (.istore 4, 2) := by decide +kernel
theorem dX1_readNumber_97 : decode cX1_readNumber 97 = .ok (.iload_n 3, 1) := by decide +kernel
theorem dX1_readNumber_98 : decode cX1_readNumber 98 = .ok (.ifCond .le 37, 3) := by decide +kernel
theorem dX1_readNumber_101 : decode cX1_readNumber 101 = .ok (.iload 4, 2) := by decide +kernel
theorem dX1_readNumber_103 : decode cX1_readNumber 103 = .ok (.ifCond .lt 32, 3) := by decide +kernel
theorem dX1_readNumber_106 : decode cX1_readNumber 106 = .ok (.iload_n 3, 1) := by decide +kernel
theorem dX1_readNumber_107 : decode cX1_readNumber 107 = .ok (.bipush 10, 2) := by decide +kernel
theorem dX1_readNumber_109 : decode cX1_readNumber 109 = .ok (.imul, 1) := by decide +kernel
theorem dX1_readNumber_110 : decode cX1_readNumber 110 = .ok (.iload 4, 2) := by decide +kernel
theorem dX1_readNumber_112 : decode cX1_readNumber 112 = .ok (.iadd, 1) := by decide +kernel
theorem dX1_readNumber_113 : decode cX1_readNumber 113 = .ok (.iload_n 2, 1) := by decide +kernel
theorem dX1_readNumber_114 : decode cX1_readNumber 114 = .ok (.if_icmp .gt 21, 3) := by decide +kernel
theorem dX1_readNumber_117 : decode cX1_readNumber 117 = .ok (.iload_n 3, 1) := by decide +kernel
theorem dX1_readNumber_118 : decode cX1_readNumber 118 = .ok (.bipush 10, 2) := by decide +kernel
theorem dX1_readNumber_120 : decode cX1_readNumber 120 = .ok (.imul, 1) := by decide +kernel
theorem dX1_readNumber_121 : decode cX1_readNumber 121 = .ok (.iload 4, 2) := by decide +kernel
theorem dX1_readNumber_123 : decode cX1_readNumber 123 = .ok (.iadd, 1) := by decide +kernel
theorem dX1_readNumber_124 : decode cX1_readNumber 124 = .ok (.istore_n 3, 1) := by decide +kernel
theorem dX1_readNumber_125 : decode cX1_readNumber 125 = .ok (.aload_n 0, 1) := by decide +kernel
theorem dX1_readNumber_126 : decode cX1_readNumber 126 = .ok (.dup, 1) := by decide +kernel
theorem dX1_readNumber_127 : decode cX1_readNumber 127 = .ok (.getfield 24, 3) := by decide +kernel
theorem dX1_readNumber_130 : decode cX1_readNumber 130 = .ok (.iconst 1, 1) := by decide +kernel
theorem dX1_readNumber_131 : decode cX1_readNumber 131 = .ok (.iadd, 1) := by decide +kernel
theorem dX1_readNumber_132 : decode cX1_readNumber 132 = .ok (.putfield 24, 3) := by decide +kernel
theorem dX1_readNumber_135 : decode cX1_readNumber 135 = .ok (.iload_n 3, 1) := by decide +kernel
theorem dX1_readNumber_136 : decode cX1_readNumber 136 = .ok (.ireturn, 1) := by decide +kernel
theorem dX1_digitAt_0 : decode cX1_digitAt 0 = .ok (.aload_n 0, 1) := by decide +kernel
theorem dX1_digitAt_1 : decode cX1_digitAt 1 = .ok (.iload_n 1, 1) := by decide +kernel
theorem dX1_digitAt_2 : decode cX1_digitAt 2 = .ok (.invokevirtual 39, 3) := by decide +kernel
theorem dX1_digitAt_5 : decode cX1_digitAt 5 = .ok (.istore_n 2, 1) := by decide +kernel
theorem dX1_digitAt_6 : decode cX1_digitAt 6 = .ok (.iload_n 2, 1) := by decide +kernel
theorem dX1_digitAt_7 : decode cX1_digitAt 7 = .ok (.bipush 48, 2) := by decide +kernel
theorem dX1_digitAt_9 : decode cX1_digitAt 9 = .ok (.if_icmp .lt 16, 3) := by decide +kernel
theorem dX1_digitAt_12 : decode cX1_digitAt 12 = .ok (.iload_n 2, 1) := by decide +kernel
theorem dX1_digitAt_13 : decode cX1_digitAt 13 = .ok (.bipush 57, 2) := by decide +kernel
theorem dX1_digitAt_15 : decode cX1_digitAt 15 = .ok (.if_icmp .gt 10, 3) := by decide +kernel
theorem dX1_digitAt_18 : decode cX1_digitAt 18 = .ok (.iload_n 2, 1) := by decide +kernel
theorem dX1_digitAt_19 : decode cX1_digitAt 19 = .ok (.bipush 48, 2) := by decide +kernel
theorem dX1_digitAt_21 : decode cX1_digitAt 21 = .ok (.isub, 1) := by decide +kernel
theorem dX1_digitAt_22 : decode cX1_digitAt 22 = .ok (.goto 4, 3) := by decide +kernel
theorem dX1_digitAt_25 : decode cX1_digitAt 25 = .ok (.iconst (-1), 1) := by decide +kernel
theorem dX1_digitAt_26 : decode cX1_digitAt 26 = .ok (.ireturn, 1) := by decide +kernel
theorem dX1_mostFirst_0 : decode cX1_mostFirst 0 = .ok (.iload_n 0, 1) := by decide +kernel
theorem dX1_mostFirst_1 : decode cX1_mostFirst 1 = .ok (.tableswitch 62 1 9 #[51, 54, 54, 54, 54, 57, 59, 62, 51], 51) := by decide +kernel
theorem dX1_mostFirst_52 : decode cX1_mostFirst 52 = .ok (.bipush 99, 2) := by decide +kernel
theorem dX1_mostFirst_54 : decode cX1_mostFirst 54 = .ok (.ireturn, 1) := by decide +kernel
theorem dX1_mostFirst_55 : decode cX1_mostFirst 55 = .ok (.bipush 63, 2) := by decide +kernel
theorem dX1_mostFirst_57 : decode cX1_mostFirst 57 = .ok (.ireturn, 1) := by decide +kernel
theorem dX1_mostFirst_58 : decode cX1_mostFirst 58 = .ok (.iconst 3, 1) := by decide +kernel
theorem dX1_mostFirst_59 : decode cX1_mostFirst 59 = .ok (.ireturn, 1) := by decide +kernel
theorem dX1_mostFirst_60 : decode cX1_mostFirst 60 = .ok (.bipush 7, 2) := by decide +kernel
theorem dX1_mostFirst_62 : decode cX1_mostFirst 62 = .ok (.ireturn, 1) := by decide +kernel
theorem dX1_mostFirst_63 : decode cX1_mostFirst 63 = .ok (.iconst (-1), 1) := by decide +kernel
theorem dX1_mostFirst_64 : decode cX1_mostFirst 64 = .ok (.ireturn, 1) := by decide +kernel
theorem dX1_mostSecond_0 : decode cX1_mostSecond 0 = .ok (.iload_n 0, 1) := by decide +kernel
theorem dX1_mostSecond_1 : decode cX1_mostSecond 1 = .ok (.lookupswitch 33 #[(6, 27), (7, 30)], 27) := by decide +kernel
theorem dX1_mostSecond_28 : decode cX1_mostSecond 28 = .ok (.bipush 7, 2) := by decide +kernel
theorem dX1_mostSecond_30 : decode cX1_mostSecond 30 = .ok (.ireturn, 1) := by decide +kernel
theorem dX1_mostSecond_31 : decode cX1_mostSecond 31 = .ok (.bipush 9, 2) := by decide +kernel
theorem dX1_mostSecond_33 : decode cX1_mostSecond 33 = .ok (.ireturn, 1) := by decide +kernel
theorem dX1_mostSecond_34 : decode cX1_mostSecond 34 = .ok (.iconst (-1), 1) := by decide +kernel
theorem dX1_mostSecond_35 : decode cX1_mostSecond 35 = .ok (.ireturn, 1) := by decide +kernel
theorem dX1_wordOf_0 : decode cX1_wordOf 0 = .ok (.iload_n 0, 1) := by decide +kernel
theorem dX1_wordOf_1 : decode cX1_wordOf 1 = .ok (.tableswitch 78 0 8 #[51, 54, 57, 60, 63, 66, 69, 72, 75], 51) := by decide +kernel
theorem dX1_wordOf_52 : decode cX1_wordOf 52 = .ok (.ldc 79, 2) := by decide +kernel
theorem dX1_wordOf_54 : decode cX1_wordOf 54 = .ok (.areturn, 1) := by decide +kernel
theorem dX1_wordOf_55 : decode cX1_wordOf 55 = .ok (.ldc 81, 2) := by decide +kernel
theorem dX1_wordOf_57 : decode cX1_wordOf 57 = .ok (.areturn, 1) := by decide +kernel
theorem dX1_wordOf_58 : decode cX1_wordOf 58 = .ok (.ldc 83, 2) := by decide +kernel
theorem dX1_wordOf_60 : decode cX1_wordOf 60 = .ok (.areturn, 1) := by decide +kernel
theorem dX1_wordOf_61 : decode cX1_wordOf 61 = .ok (.ldc 85, 2) := by decide +kernel
theorem dX1_wordOf_63 : decode cX1_wordOf 63 = .ok (.areturn, 1) := by decide +kernel
theorem dX1_wordOf_64 : decode cX1_wordOf 64 = .ok (.ldc 87, 2) := by decide +kernel
theorem dX1_wordOf_66 : decode cX1_wordOf 66 = .ok (.areturn, 1) := by decide +kernel
theorem dX1_wordOf_67 : decode cX1_wordOf 67 = .ok (.ldc 89, 2) := by decide +kernel
theorem dX1_wordOf_69 : decode cX1_wordOf 69 = .ok (.areturn, 1) := by decide +kernel
theorem dX1_wordOf_70 : decode cX1_wordOf 70 = .ok (.ldc 91, 2) := by decide +kernel
theorem dX1_wordOf_72 : decode cX1_wordOf 72 = .ok (.areturn, 1) := by decide +kernel
theorem dX1_wordOf_73 : decode cX1_wordOf 73 = .ok (.ldc 93, 2) := by decide +kernel
theorem dX1_wordOf_75 : decode cX1_wordOf 75 = .ok (.areturn, 1) := by decide +kernel
theorem dX1_wordOf_76 : decode cX1_wordOf 76 = .ok (.ldc 95, 2) := by decide +kernel
theorem dX1_wordOf_78 : decode cX1_wordOf 78 = .ok (.areturn, 1) := by decide +kernel
theorem dX1_wordOf_79 : decode cX1_wordOf 79 = .ok (.ldc 97, 2) := by decide +kernel
theorem dX1_wordOf_81 : decode cX1_wordOf 81 = .ok (.areturn, 1) := by decide +kernel
theorem dX2_init_0 : decode cX2_init 0 = .ok (.aload_n 0, 1) := by decide +kernel
theorem dX2_init_1 : decode cX2_init 1 = .ok (.invokespecial 3, 3) := by decide +kernel
theorem dX2_init_4 : decode cX2_init 4 = .ok (.aload_n 0, 1) := by decide +kernel
theorem dX2_init_5 : decode cX2_init 5 = .ok (.new 9, 3) := by decide +kernel
theorem dX2_init_8 : decode cX2_init 8 = .ok (.dup, 1) := by decide +kernel
theorem dX2_init_9 : decode cX2_init 9 = .ok (.bipush 24, 2) := by decide +kernel
theorem dX2_init_11 : decode cX2_init 11 = .ok (.invokespecial 13, 3) := by decide +kernel
theorem dX2_init_14 : decode cX2_init 14 = .ok (.putfield 16, 3) := by decide +kernel
theorem dX2_init_17 : decode cX2_init 17 = .ok (.return_, 1) := by decide +kernel
theorem dX2_copyFrom_0 : decode cX2_copyFrom 0 = .ok (.aload_n 0, 1) := by decide +kernel
theorem dX2_copyFrom_1 : decode cX2_copyFrom 1 = .ok (.getfield 16, 3) := by decide +kernel
theorem dX2_copyFrom_4 : decode cX2_copyFrom 4 = .ok (.aload_n 1, 1) := by decide +kernel
theorem dX2_copyFrom_5 : decode cX2_copyFrom 5 = .ok (.getfield 16, 3) := by decide +kernel
theorem dX2_copyFrom_8 : decode cX2_copyFrom 8 = .ok (.invokevirtual 20, 3) := by decide +kernel
theorem dX2_copyFrom_11 : decode cX2_copyFrom 11 = .ok (.aload_n 0, 1) := by decide +kernel
theorem dX2_copyFrom_12 : decode cX2_copyFrom 12 = .ok (.aload_n 1, 1) := by decide +kernel
theorem dX2_copyFrom_13 : decode cX2_copyFrom 13 = .ok (.getfield 24, 3) := by decide +kernel
theorem dX2_copyFrom_16 : decode cX2_copyFrom 16 = .ok (.putfield 24, 3) := by decide +kernel
theorem dX2_copyFrom_19 : decode cX2_copyFrom 19 = .ok (.return_, 1) := by decide +kernel
theorem dX2_add_0 : decode cX2_add 0 = .ok (.aload_n 0, 1) := by decide +kernel
theorem dX2_add_1 : decode cX2_add 1 = .ok (.getfield 24, 3) := by decide +kernel
theorem dX2_add_4 : decode cX2_add 4 = .ok (.iconst 3, 1) := by decide +kernel
theorem dX2_add_5 : decode cX2_add 5 = .ok (.imul, 1) := by decide +kernel
theorem dX2_add_6 : decode cX2_add 6 = .ok (.istore 4, 2) := by decide +kernel
theorem dX2_add_8 : decode cX2_add 8 = .ok (.aload_n 0, 1) := by decide +kernel
theorem dX2_add_9 : decode cX2_add 9 = .ok (.getfield 16, 3) := by decide +kernel
theorem dX2_add_12 : decode cX2_add 12 = .ok (.iload 4, 2) := by decide +kernel
theorem dX2_add_14 : decode cX2_add 14 = .ok (.iconst 0, 1) := by decide +kernel
theorem dX2_add_15 : decode cX2_add 15 = .ok (.iadd, 1) := by decide +kernel
theorem dX2_add_16 : decode cX2_add 16 = .ok (.iload_n 1, 1) := by decide +kernel
theorem dX2_add_17 : decode cX2_add 17 = .ok (.invokevirtual 28, 3) := by decide +kernel
theorem dX2_add_20 : decode cX2_add 20 = .ok (.aload_n 0, 1) := by decide +kernel
theorem dX2_add_21 : decode cX2_add 21 = .ok (.getfield 16, 3) := by decide +kernel
theorem dX2_add_24 : decode cX2_add 24 = .ok (.iload 4, 2) := by decide +kernel
theorem dX2_add_26 : decode cX2_add 26 = .ok (.iconst 1, 1) := by decide +kernel
theorem dX2_add_27 : decode cX2_add 27 = .ok (.iadd, 1) := by decide +kernel
theorem dX2_add_28 : decode cX2_add 28 = .ok (.iload_n 2, 1) := by decide +kernel
theorem dX2_add_29 : decode cX2_add 29 = .ok (.invokevirtual 28, 3) := by decide +kernel
theorem dX2_add_32 : decode cX2_add 32 = .ok (.aload_n 0, 1) := by decide +kernel
theorem dX2_add_33 : decode cX2_add 33 = .ok (.getfield 16, 3) := by decide +kernel
theorem dX2_add_36 : decode cX2_add 36 = .ok (.iload 4, 2) := by decide +kernel
theorem dX2_add_38 : decode cX2_add 38 = .ok (.iconst 2, 1) := by decide +kernel
theorem dX2_add_39 : decode cX2_add 39 = .ok (.iadd, 1) := by decide +kernel
theorem dX2_add_40 : decode cX2_add 40 = .ok (.iload_n 3, 1) := by decide +kernel
theorem dX2_add_41 : decode cX2_add 41 = .ok (.invokevirtual 28, 3) := by decide +kernel
theorem dX2_add_44 : decode cX2_add 44 = .ok (.aload_n 0, 1) := by decide +kernel
theorem dX2_add_45 : decode cX2_add 45 = .ok (.dup, 1) := by decide +kernel
theorem dX2_add_46 : decode cX2_add 46 = .ok (.getfield 24, 3) := by decide +kernel
theorem dX2_add_49 : decode cX2_add 49 = .ok (.iconst 1, 1) := by decide +kernel
theorem dX2_add_50 : decode cX2_add 50 = .ok (.iadd, 1) := by decide +kernel
theorem dX2_add_51 : decode cX2_add 51 = .ok (.putfield 24, 3) := by decide +kernel
theorem dX2_add_54 : decode cX2_add 54 = .ok (.return_, 1) := by decide +kernel
theorem dX2_tell_0 : decode cX2_tell 0 = .ok (.aload_n 0, 1) := by decide +kernel
theorem dX2_tell_1 : decode cX2_tell 1 = .ok (.getfield 16, 3) := by decide +kernel
theorem dX2_tell_4 : decode cX2_tell 4 = .ok (.aload_n 0, 1) := by decide +kernel
theorem dX2_tell_5 : decode cX2_tell 5 = .ok (.getfield 24, 3) := by decide +kernel
theorem dX2_tell_8 : decode cX2_tell 8 = .ok (.iconst 1, 1) := by decide +kernel
theorem dX2_tell_9 : decode cX2_tell 9 = .ok (.isub, 1) := by decide +kernel
theorem dX2_tell_10 : decode cX2_tell 10 = .ok (.iload_n 1, 1) := by decide +kernel
theorem dX2_tell_11 : decode cX2_tell 11 = .ok (.isub, 1) := by decide +kernel
theorem dX2_tell_12 : decode cX2_tell 12 = .ok (.iconst 3, 1) := by decide +kernel
theorem dX2_tell_13 : decode cX2_tell 13 = .ok (.imul, 1) := by decide +kernel
theorem dX2_tell_14 : decode cX2_tell 14 = .ok (.iload_n 2, 1) := by decide +kernel
theorem dX2_tell_15 : decode cX2_tell 15 = .ok (.iadd, 1) := by decide +kernel
theorem dX2_tell_16 : decode cX2_tell 16 = .ok (.invokevirtual 32, 3) := by decide +kernel
theorem dX2_tell_19 : decode cX2_tell 19 = .ok (.ireturn, 1) := by decide +kernel
theorem dX2_howManyBackTo_0 : decode cX2_howManyBackTo 0 = .ok (.iconst 0, 1) := by decide +kernel
theorem dX2_howManyBackTo_1 : decode cX2_howManyBackTo 1 = .ok (.istore_n 2, 1) := by decide +kernel
theorem dX2_howManyBackTo_2 : decode cX2_howManyBackTo 2 = .ok (.iconst 0, 1) := by decide +kernel
theorem dX2_howManyBackTo_3 : decode cX2_howManyBackTo 3 = .ok (.istore_n 3, 1) := by decide +kernel
theorem dX2_howManyBackTo_4 : decode cX2_howManyBackTo 4 = .ok (.iload_n 3, 1) := by decide +kernel
theorem dX2_howManyBackTo_5 : decode cX2_howManyBackTo 5 = .ok (.aload_n 0, 1) := by decide +kernel
theorem dX2_howManyBackTo_6 : decode cX2_howManyBackTo 6 = .ok (.getfield 24, 3) := by decide +kernel
theorem dX2_howManyBackTo_9 : decode cX2_howManyBackTo 9 = .ok (.if_icmp .ge 22, 3) := by decide +kernel
theorem dX2_howManyBackTo_12 : decode cX2_howManyBackTo 12 = .ok (.aload_n 0, 1) := by decide +kernel
theorem dX2_howManyBackTo_13 : decode cX2_howManyBackTo 13 = .ok (.iload_n 3, 1) := by decide +kernel
theorem dX2_howManyBackTo_14 : decode cX2_howManyBackTo 14 = .ok (.iconst 1, 1) := by decide +kernel
theorem dX2_howManyBackTo_15 : decode cX2_howManyBackTo 15 = .ok (.invokevirtual 36, 3) := by decide +kernel
theorem dX2_howManyBackTo_18 : decode cX2_howManyBackTo 18 = .ok (.iload_n 1, 1) := by decide +kernel
theorem dX2_howManyBackTo_19 : decode cX2_howManyBackTo 19 = .ok (.if_icmp .ne 6, 3) := by decide +kernel
theorem dX2_howManyBackTo_22 : decode cX2_howManyBackTo 22 = .ok (.iinc 2 1, 3) := by decide +kernel
theorem dX2_howManyBackTo_25 : decode cX2_howManyBackTo 25 = .ok (.iinc 3 1, 3) := by decide +kernel
theorem dX2_howManyBackTo_28 : decode cX2_howManyBackTo 28 = .ok (.goto (-24), 3) := by decide +kernel
theorem dX2_howManyBackTo_31 : decode cX2_howManyBackTo 31 = .ok (.iload_n 2, 1) := by decide +kernel
theorem dX2_howManyBackTo_32 : decode cX2_howManyBackTo 32 = .ok (.ireturn, 1) := by decide +kernel
theorem dX3_init_0 : decode cX3_init 0 = .ok (.aload_n 0, 1) := by decide +kernel
theorem dX3_init_1 : decode cX3_init 1 = .ok (.invokespecial 3, 3) := by decide +kernel
theorem dX3_init_4 : decode cX3_init 4 = .ok (.aload_n 0, 1) := by decide +kernel
theorem dX3_init_5 : decode cX3_init 5 = .ok (.iconst 4, 1) := by decide +kernel
theorem dX3_init_6 : decode cX3_init 6 = .ok (.anewarray 9, 3) := by decide +kernel
theorem dX3_init_9 : decode cX3_init 9 = .ok (.putfield 11, 3) := by decide +kernel
theorem dX3_init_12 : decode cX3_init 12 = .ok (.iconst 0, 1) := by decide +kernel
theorem dX3_init_13 : decode cX3_init 13 = .ok (.istore_n 1, 1) := by decide +kernel
theorem dX3_init_14 : decode cX3_init 14 = .ok (.iload_n 1, 1) := by decide +kernel
theorem dX3_init_15 : decode cX3_init 15 = .ok (.aload_n 0, 1) := by decide +kernel
theorem dX3_init_16 : decode cX3_init 16 = .ok (.getfield 11, 3) := by decide +kernel
theorem dX3_init_19 : decode cX3_init 19 = .ok (.arraylength, 1) := by decide +kernel
theorem dX3_init_20 : decode cX3_init 20 = .ok (.if_icmp .ge 22, 3) := by decide +kernel
theorem dX3_init_23 : decode cX3_init 23 = .ok (.aload_n 0, 1) := by decide +kernel
theorem dX3_init_24 : decode cX3_init 24 = .ok (.getfield 11, 3) := by decide +kernel
theorem dX3_init_27 : decode cX3_init 27 = .ok (.iload_n 1, 1) := by decide +kernel
theorem dX3_init_28 : decode cX3_init 28 = .ok (.new 9, 3) := by decide +kernel
theorem dX3_init_31 : decode cX3_init 31 = .ok (.dup, 1) := by decide +kernel
theorem dX3_init_32 : decode cX3_init 32 = .ok (.invokespecial 17, 3) := by decide +kernel
theorem dX3_init_35 : decode cX3_init 35 = .ok (.aastore, 1) := by decide +kernel
theorem dX3_init_36 : decode cX3_init 36 = .ok (.iinc 1 1, 3) := by decide +kernel
theorem dX3_init_39 : decode cX3_init 39 = .ok (.goto (-25), 3) := by decide +kernel
theorem dX3_init_42 : decode cX3_init 42 = .ok (.return_, 1) := by decide +kernel
theorem dX3_remember_0 : decode cX3_remember 0 = .ok (.aload_n 0, 1) := by decide +kernel
theorem dX3_remember_1 : decode cX3_remember 1 = .ok (.getfield 18, 3) := by decide +kernel
theorem dX3_remember_4 : decode cX3_remember 4 = .ok (.iconst 4, 1) := by decide +kernel
theorem dX3_remember_5 : decode cX3_remember 5 = .ok (.if_icmp .ne 7, 3) := by decide +kernel
theorem dX3_remember_8 : decode cX3_remember 8 = .ok (.aload_n 0, 1) := by decide +kernel
theorem dX3_remember_9 : decode cX3_remember 9 = .ok (.invokevirtual 22, 3) := by decide +kernel
theorem dX3_remember_12 : decode cX3_remember 12 = .ok (.aload_n 0, 1) := by decide +kernel
theorem dX3_remember_13 : decode cX3_remember 13 = .ok (.getfield 18, 3) := by decide +kernel
theorem dX3_remember_16 : decode cX3_remember 16 = .ok (.ifCond .lt 38, 3) := by decide +kernel
theorem dX3_remember_19 : decode cX3_remember 19 = .ok (.aload_n 0, 1) := by decide +kernel
theorem dX3_remember_20 : decode cX3_remember 20 = .ok (.getfield 18, 3) := by decide +kernel
theorem dX3_remember_23 : decode cX3_remember 23 = .ok (.aload_n 0, 1) := by decide +kernel
theorem dX3_remember_24 : decode cX3_remember 24 = .ok (.getfield 11, 3) := by decide +kernel
theorem dX3_remember_27 : decode cX3_remember 27 = .ok (.arraylength, 1) := by decide +kernel
theorem dX3_remember_28 : decode cX3_remember 28 = .ok (.if_icmp .ge 26, 3) := by decide +kernel
theorem dX3_remember_31 : decode cX3_remember 31 = .ok (.aload_n 0, 1) := by decide +kernel
theorem dX3_remember_32 : decode cX3_remember 32 = .ok (.getfield 11, 3) := by decide +kernel
theorem dX3_remember_35 : decode cX3_remember 35 = .ok (.aload_n 0, 1) := by decide +kernel
theorem dX3_remember_36 : decode cX3_remember 36 = .ok (.getfield 18, 3) := by decide +kernel
theorem dX3_remember_39 : decode cX3_remember 39 = .ok (.aaload, 1) := by decide +kernel
theorem dX3_remember_40 : decode cX3_remember 40 = .ok (.aload_n 1, 1) := by decide +kernel
theorem dX3_remember_41 : decode cX3_remember 41 = .ok (.invokevirtual 25, 3) := by decide +kernel
theorem dX3_remember_44 : decode cX3_remember 44 = .ok (.aload_n 0, 1) := by decide +kernel
theorem dX3_remember_45 : decode cX3_remember 45 = .ok (.dup, 1) := by decide +kernel
theorem dX3_remember_46 : decode cX3_remember 46 = .ok (.getfield 18, 3) := by decide +kernel
theorem dX3_remember_49 : decode cX3_remember 49 = .ok (.iconst 1, 1) := by decide +kernel
theorem dX3_remember_50 : decode cX3_remember 50 = .ok (.iadd, 1) := by decide +kernel
theorem dX3_remember_51 : decode cX3_remember 51 = .ok (.putfield 18, 3) := by decide +kernel
theorem dX3_remember_54 : decode cX3_remember 54 = .ok (.return_, 1) := by decide +kernel
theorem dX3_bringBack_0 : decode cX3_bringBack 0 = .ok (.aload_n 0, 1) := by decide +kernel
theorem dX3_bringBack_1 : decode cX3_bringBack 1 = .ok (.getfield 18, 3) := by decide +kernel
theorem dX3_bringBack_4 : decode cX3_bringBack 4 = .ok (.ifCond .le 38, 3) := by decide +kernel
theorem dX3_bringBack_7 : decode cX3_bringBack 7 = .ok (.aload_n 0, 1) := by decide +kernel
theorem dX3_bringBack_8 : decode cX3_bringBack 8 = .ok (.getfield 18, 3) := by decide +kernel
theorem dX3_bringBack_11 : decode cX3_bringBack 11 = .ok (.aload_n 0, 1) := by decide +kernel
theorem dX3_bringBack_12 : decode cX3_bringBack 12 = .ok (.getfield 11, 3) := by decide +kernel
theorem dX3_bringBack_15 : decode cX3_bringBack 15 = .ok (.arraylength, 1) := by decide +kernel
theorem dX3_bringBack_16 : decode cX3_bringBack 16 = .ok (.if_icmp .gt 26, 3) := by decide +kernel
theorem dX3_bringBack_19 : decode cX3_bringBack 19 = .ok (.aload_n 0, 1) := by decide +kernel
theorem dX3_bringBack_20 : decode cX3_bringBack 20 = .ok (.dup, 1) := by decide +kernel
theorem dX3_bringBack_21 : decode cX3_bringBack 21 = .ok (.getfield 18, 3) := by decide +kernel
theorem dX3_bringBack_24 : decode cX3_bringBack 24 = .ok (.iconst 1, 1) := by decide +kernel
theorem dX3_bringBack_25 : decode cX3_bringBack 25 = .ok (.isub, 1) := by decide +kernel
theorem dX3_bringBack_26 : decode cX3_bringBack 26 = .ok (.putfield 18, 3) := by decide +kernel
theorem dX3_bringBack_29 : decode cX3_bringBack 29 = .ok (.aload_n 1, 1) := by decide +kernel
theorem dX3_bringBack_30 : decode cX3_bringBack 30 = .ok (.aload_n 0, 1) := by decide +kernel
theorem dX3_bringBack_31 : decode cX3_bringBack 31 = .ok (.getfield 11, 3) := by decide +kernel
theorem dX3_bringBack_34 : decode cX3_bringBack 34 = .ok (.aload_n 0, 1) := by decide +kernel
theorem dX3_bringBack_35 : decode cX3_bringBack 35 = .ok (.getfield 18, 3) := by decide +kernel
theorem dX3_bringBack_38 : decode cX3_bringBack 38 = .ok (.aaload, 1) := by decide +kernel
theorem dX3_bringBack_39 : decode cX3_bringBack 39 = .ok (.invokevirtual 25, 3) := by decide +kernel
theorem dX3_bringBack_42 : decode cX3_bringBack 42 = .ok (.return_, 1) := by decide +kernel
theorem dX3_dropOldest_0 : decode cX3_dropOldest 0 = .ok (.aload_n 0, 1) := by decide +kernel
theorem dX3_dropOldest_1 : decode cX3_dropOldest 1 = .ok (.getfield 11, 3) := by decide +kernel
theorem dX3_dropOldest_4 : decode cX3_dropOldest 4 = .ok (.iconst 0, 1) := by decide +kernel
theorem dX3_dropOldest_5 : decode cX3_dropOldest 5 = .ok (.aaload, 1) := by decide +kernel
theorem dX3_dropOldest_6 : decode cX3_dropOldest 6 = .ok (.astore_n 1, 1) := by decide +kernel
theorem dX3_dropOldest_7 : decode cX3_dropOldest 7 = .ok (.iconst 1, 1) := by decide +kernel
theorem dX3_dropOldest_8 : decode cX3_dropOldest 8 = .ok (.istore_n 2, 1) := by decide +kernel
theorem dX3_dropOldest_9 : decode cX3_dropOldest 9 = .ok (.iload_n 2, 1) := by decide +kernel
theorem dX3_dropOldest_10 : decode cX3_dropOldest 10 = .ok (.aload_n 0, 1) := by decide +kernel
theorem dX3_dropOldest_11 : decode cX3_dropOldest 11 = .ok (.getfield 11, 3) := by decide +kernel
theorem dX3_dropOldest_14 : decode cX3_dropOldest 14 = .ok (.arraylength, 1) := by decide +kernel
theorem dX3_dropOldest_15 : decode cX3_dropOldest 15 = .ok (.if_icmp .ge 23, 3) := by decide +kernel
theorem dX3_dropOldest_18 : decode cX3_dropOldest 18 = .ok (.aload_n 0, 1) := by decide +kernel
theorem dX3_dropOldest_19 : decode cX3_dropOldest 19 = .ok (.getfield 11, 3) := by decide +kernel
theorem dX3_dropOldest_22 : decode cX3_dropOldest 22 = .ok (.iload_n 2, 1) := by decide +kernel
theorem dX3_dropOldest_23 : decode cX3_dropOldest 23 = .ok (.iconst 1, 1) := by decide +kernel
theorem dX3_dropOldest_24 : decode cX3_dropOldest 24 = .ok (.isub, 1) := by decide +kernel
theorem dX3_dropOldest_25 : decode cX3_dropOldest 25 = .ok (.aload_n 0, 1) := by decide +kernel
theorem dX3_dropOldest_26 : decode cX3_dropOldest 26 = .ok (.getfield 11, 3) := by decide +kernel
theorem dX3_dropOldest_29 : decode cX3_dropOldest 29 = .ok (.iload_n 2, 1) := by decide +kernel
theorem dX3_dropOldest_30 : decode cX3_dropOldest 30 = .ok (.aaload, 1) := by decide +kernel
theorem dX3_dropOldest_31 : decode cX3_dropOldest 31 = .ok (.aastore, 1) := by decide +kernel
theorem dX3_dropOldest_32 : decode cX3_dropOldest 32 = .ok (.iinc 2 1, 3) := by decide +kernel
theorem dX3_dropOldest_35 : decode cX3_dropOldest 35 = .ok (.goto (-26), 3) := by decide +kernel
theorem dX3_dropOldest_38 : decode cX3_dropOldest 38 = .ok (.aload_n 0, 1) := by decide +kernel
theorem dX3_dropOldest_39 : decode cX3_dropOldest 39 = .ok (.getfield 11, 3) := by decide +kernel
theorem dX3_dropOldest_42 : decode cX3_dropOldest 42 = .ok (.aload_n 0, 1) := by decide +kernel
theorem dX3_dropOldest_43 : decode cX3_dropOldest 43 = .ok (.getfield 11, 3) := by decide +kernel
theorem dX3_dropOldest_46 : decode cX3_dropOldest 46 = .ok (.arraylength, 1) := by decide +kernel
theorem dX3_dropOldest_47 : decode cX3_dropOldest 47 = .ok (.iconst 1, 1) := by decide +kernel
theorem dX3_dropOldest_48 : decode cX3_dropOldest 48 = .ok (.isub, 1) := by decide +kernel
theorem dX3_dropOldest_49 : decode cX3_dropOldest 49 = .ok (.aload_n 1, 1) := by decide +kernel
theorem dX3_dropOldest_50 : decode cX3_dropOldest 50 = .ok (.aastore, 1) := by decide +kernel
theorem dX3_dropOldest_51 : decode cX3_dropOldest 51 = .ok (.aload_n 0, 1) := by decide +kernel
theorem dX3_dropOldest_52 : decode cX3_dropOldest 52 = .ok (.dup, 1) := by decide +kernel
theorem dX3_dropOldest_53 : decode cX3_dropOldest 53 = .ok (.getfield 18, 3) := by decide +kernel
theorem dX3_dropOldest_56 : decode cX3_dropOldest 56 = .ok (.iconst 1, 1) := by decide +kernel
theorem dX3_dropOldest_57 : decode cX3_dropOldest 57 = .ok (.isub, 1) := by decide +kernel
theorem dX3_dropOldest_58 : decode cX3_dropOldest 58 = .ok (.putfield 18, 3) := by decide +kernel
theorem dX3_dropOldest_61 : decode cX3_dropOldest 61 = .ok (.return_, 1) := by decide +kernel
theorem dX4_init_0 : decode cX4_init 0 = .ok (.aload_n 0, 1) := by decide +kernel

theorem dX4_callFrom_39 : decode cX4_callFrom 39 = .ok (.iload_n 1, 1) := by decide +kernel
theorem dX4_callFrom_40 : decode cX4_callFrom 40 = .ok (.bipush 16, 2) := by decide +kernel
theorem dX4_callFrom_42 : decode cX4_callFrom 42 = .ok (.imul, 1) := by decide +kernel
theorem dX4_callFrom_43 : decode cX4_callFrom 43 = .ok (.iload_n 2, 1) := by decide +kernel
theorem dX4_callFrom_44 : decode cX4_callFrom 44 = .ok (.bipush 10, 2) := by decide +kernel
theorem dX4_callFrom_46 : decode cX4_callFrom 46 = .ok (.irem, 1) := by decide +kernel
theorem dX4_callFrom_47 : decode cX4_callFrom 47 = .ok (.iadd, 1) := by decide +kernel
theorem dX4_callFrom_48 : decode cX4_callFrom 48 = .ok (.putfield 46, 3) := by decide +kernel
theorem dX4_callFrom_51 : decode cX4_callFrom 51 = .ok (.aload_n 0, 1) := by decide +kernel
theorem dX4_callFrom_52 : decode cX4_callFrom 52 = .ok (.dup, 1) := by decide +kernel
theorem dX4_callFrom_53 : decode cX4_callFrom 53 = .ok (.getfield 55, 3) := by decide +kernel
theorem dX4_callFrom_56 : decode cX4_callFrom 56 = .ok (.iconst 1, 1) := by decide +kernel
theorem dX4_callFrom_57 : decode cX4_callFrom 57 = .ok (.iadd, 1) := by decide +kernel
theorem dX4_callFrom_58 : decode cX4_callFrom 58 = .ok (.putfield 55, 3) := by decide +kernel
theorem dX4_callFrom_61 : decode cX4_callFrom 61 = .ok (.return_, 1) := by decide +kernel
theorem dX4_comeBack_0 : decode cX4_comeBack 0 = .ok (.aload_n 0, 1) := by decide +kernel
theorem dX4_comeBack_1 : decode cX4_comeBack 1 = .ok (.getfield 12, 3) := by decide +kernel
theorem dX4_comeBack_4 : decode cX4_comeBack 4 = .ok (.getfield 93, 3) := by decide +kernel
theorem dX4_comeBack_7 : decode cX4_comeBack 7 = .ok (.aload_n 0, 1) := by decide +kernel
theorem dX4_comeBack_8 : decode cX4_comeBack 8 = .ok (.getfield 21, 3) := by decide +kernel
theorem dX4_comeBack_11 : decode cX4_comeBack 11 = .ok (.iconst 0, 1) := by decide +kernel
theorem dX4_comeBack_12 : decode cX4_comeBack 12 = .ok (.iconst 0, 1) := by decide +kernel
theorem dX4_comeBack_13 : decode cX4_comeBack 13 = .ok (.invokevirtual 113, 3) := by decide +kernel
theorem dX4_comeBack_16 : decode cX4_comeBack 16 = .ok (.aload_n 0, 1) := by decide +kernel
theorem dX4_comeBack_17 : decode cX4_comeBack 17 = .ok (.getfield 21, 3) := by decide +kernel
theorem dX4_comeBack_20 : decode cX4_comeBack 20 = .ok (.iconst 0, 1) := by decide +kernel
theorem dX4_comeBack_21 : decode cX4_comeBack 21 = .ok (.iconst 1, 1) := by decide +kernel
theorem dX4_comeBack_22 : decode cX4_comeBack 22 = .ok (.invokevirtual 113, 3) := by decide +kernel
theorem dX4_comeBack_25 : decode cX4_comeBack 25 = .ok (.invokevirtual 97, 3) := by decide +kernel
theorem dX4_comeBack_28 : decode cX4_comeBack 28 = .ok (.aload_n 0, 1) := by decide +kernel
theorem dX4_comeBack_29 : decode cX4_comeBack 29 = .ok (.aload_n 0, 1) := by decide +kernel
theorem dX4_comeBack_30 : decode cX4_comeBack 30 = .ok (.getfield 21, 3) := by decide +kernel
theorem dX4_comeBack_33 : decode cX4_comeBack 33 = .ok (.iconst 0, 1) := by decide +kernel
theorem dX4_comeBack_34 : decode cX4_comeBack 34 = .ok (.iconst 2, 1) := by decide +kernel
theorem dX4_comeBack_35 : decode cX4_comeBack 35 = .ok (.invokevirtual 113, 3) := by decide +kernel
theorem dX4_comeBack_38 : decode cX4_comeBack 38 = .ok (.putfield 46, 3) := by decide +kernel
theorem dX4_comeBack_41 : decode cX4_comeBack 41 = .ok (.aload_n 0, 1) := by decide +kernel
theorem dX4_comeBack_42 : decode cX4_comeBack 42 = .ok (.getfield 21, 3) := by decide +kernel
theorem dX4_comeBack_45 : decode cX4_comeBack 45 = .ok (.dup, 1) := by decide +kernel
theorem dX4_comeBack_46 : decode cX4_comeBack 46 = .ok (.getfield 58, 3) := by decide +kernel
theorem dX4_comeBack_49 : decode cX4_comeBack 49 = .ok (.iconst 1, 1) := by decide +kernel
theorem dX4_comeBack_50 : decode cX4_comeBack 50 = .ok (.isub, 1) := by decide +kernel
theorem dX4_comeBack_51 : decode cX4_comeBack 51 = .ok (.putfield 58, 3) := by decide +kernel
theorem dX4_comeBack_54 : decode cX4_comeBack 54 = .ok (.return_, 1) := by decide +kernel
theorem dX5_init_0 : decode cX5_init 0 = .ok (.aload_n 0, 1) := by decide +kernel
theorem dX5_init_1 : decode cX5_init 1 = .ok (.invokespecial 1, 3) := by decide +kernel
theorem dX5_init_4 : decode cX5_init 4 = .ok (.aload_n 0, 1) := by decide +kernel
theorem dX5_init_5 : decode cX5_init 5 = .ok (.iload_n 1, 1) := by decide +kernel
theorem dX5_init_6 : decode cX5_init 6 = .ok (.iconst 0, 1) := by decide +kernel
theorem dX5_init_7 : decode cX5_init 7 = .ok (.invokestatic 7, 3) := by decide +kernel
theorem dX5_init_10 : decode cX5_init 10 = .ok (.newarray .int, 2) := by decide +kernel
theorem dX5_init_12 : decode cX5_init 12 = .ok (.putfield 13, 3) := by decide +kernel
theorem dX5_init_15 : decode cX5_init 15 = .ok (.return_, 1) := by decide +kernel
theorem dX5_read_0 : decode cX5_read 0 = .ok (.iload_n 1, 1) := by decide +kernel
theorem dX5_read_1 : decode cX5_read 1 = .ok (.ifCond .lt 21, 3) := by decide +kernel
theorem dX5_read_4 : decode cX5_read 4 = .ok (.iload_n 1, 1) := by decide +kernel
theorem dX5_read_5 : decode cX5_read 5 = .ok (.aload_n 0, 1) := by decide +kernel
theorem dX5_read_6 : decode cX5_read 6 = .ok (.getfield 13, 3) := by decide +kernel
theorem dX5_read_9 : decode cX5_read 9 = .ok (.arraylength, 1) := by decide +kernel
theorem dX5_read_10 : decode cX5_read 10 = .ok (.if_icmp .ge 12, 3) := by decide +kernel
theorem dX5_read_13 : decode cX5_read 13 = .ok (.aload_n 0, 1) := by decide +kernel
theorem dX5_read_14 : decode cX5_read 14 = .ok (.getfield 13, 3) := by decide +kernel
theorem dX5_read_17 : decode cX5_read 17 = .ok (.iload_n 1, 1) := by decide +kernel
theorem dX5_read_18 : decode cX5_read 18 = .ok (.iaload, 1) := by decide +kernel
theorem dX5_read_19 : decode cX5_read 19 = .ok (.goto 4, 3) := by decide +kernel
theorem dX5_read_22 : decode cX5_read 22 = .ok (.iconst 0, 1) := by decide +kernel
theorem dX5_read_23 : decode cX5_read 23 = .ok (.ireturn, 1) := by decide +kernel
theorem dX5_write_0 : decode cX5_write 0 = .ok (.iload_n 1, 1) := by decide +kernel
theorem dX5_write_1 : decode cX5_write 1 = .ok (.ifCond .lt 19, 3) := by decide +kernel
theorem dX5_write_4 : decode cX5_write 4 = .ok (.iload_n 1, 1) := by decide +kernel
theorem dX5_write_5 : decode cX5_write 5 = .ok (.aload_n 0, 1) := by decide +kernel
theorem dX5_write_6 : decode cX5_write 6 = .ok (.getfield 13, 3) := by decide +kernel
theorem dX5_write_9 : decode cX5_write 9 = .ok (.arraylength, 1) := by decide +kernel
theorem dX5_write_10 : decode cX5_write 10 = .ok (.if_icmp .ge 10, 3) := by decide +kernel
theorem dX5_write_13 : decode cX5_write 13 = .ok (.aload_n 0, 1) := by decide +kernel
theorem dX5_write_14 : decode cX5_write 14 = .ok (.getfield 13, 3) := by decide +kernel
theorem dX5_write_17 : decode cX5_write 17 = .ok (.iload_n 1, 1) := by decide +kernel
theorem dX5_write_18 : decode cX5_write 18 = .ok (.iload_n 2, 1) := by decide +kernel
theorem dX5_write_19 : decode cX5_write 19 = .ok (.iastore, 1) := by decide +kernel
theorem dX5_write_20 : decode cX5_write 20 = .ok (.return_, 1) := by decide +kernel
theorem dX5_sum_0 : decode cX5_sum 0 = .ok (.iconst 0, 1) := by decide +kernel
theorem dX5_sum_1 : decode cX5_sum 1 = .ok (.istore_n 1, 1) := by decide +kernel
theorem dX5_sum_2 : decode cX5_sum 2 = .ok (.aload_n 0, 1) := by decide +kernel
theorem dX5_sum_3 : decode cX5_sum 3 = .ok (.getfield 13, 3) := by decide +kernel
theorem dX5_sum_6 : decode cX5_sum 6 = .ok (.astore_n 2, 1) := by decide +kernel
theorem dX5_sum_7 : decode cX5_sum 7 = .ok (.aload_n 2, 1) := by decide +kernel
theorem dX5_sum_8 : decode cX5_sum 8 = .ok (.arraylength, 1) := by decide +kernel
theorem dX5_sum_9 : decode cX5_sum 9 = .ok (.istore_n 3, 1) := by decide +kernel
theorem dX5_sum_10 : decode cX5_sum 10 = .ok (.iconst 0, 1) := by decide +kernel
theorem dX5_sum_11 : decode cX5_sum 11 = .ok (.istore 4, 2) := by decide +kernel
theorem dX5_sum_13 : decode cX5_sum 13 = .ok (.iload 4, 2) := by decide +kernel
theorem dX5_sum_15 : decode cX5_sum 15 = .ok (.iload_n 3, 1) := by decide +kernel
theorem dX5_sum_16 : decode cX5_sum 16 = .ok (.if_icmp .ge 20, 3) := by decide +kernel
theorem dX5_sum_19 : decode cX5_sum 19 = .ok (.aload_n 2, 1) := by decide +kernel
theorem dX5_sum_20 : decode cX5_sum 20 = .ok (.iload 4, 2) := by decide +kernel
theorem dX5_sum_22 : decode cX5_sum 22 = .ok (.iaload, 1) := by decide +kernel
theorem dX5_sum_23 : decode cX5_sum 23 = .ok (.istore 5, 2) := by decide +kernel
theorem dX5_sum_25 : decode cX5_sum 25 = .ok (.iload_n 1, 1) := by decide +kernel
theorem dX5_sum_26 : decode cX5_sum 26 = .ok (.iload 5, 2) := by decide +kernel
theorem dX5_sum_28 : decode cX5_sum 28 = .ok (.iadd, 1) := by decide +kernel
theorem dX5_sum_29 : decode cX5_sum 29 = .ok (.istore_n 1, 1) := by decide +kernel
theorem dX5_sum_30 : decode cX5_sum 30 = .ok (.iinc 4 1, 3) := by decide +kernel
theorem dX5_sum_33 : decode cX5_sum 33 = .ok (.goto (-20), 3) := by decide +kernel
theorem dX5_sum_36 : decode cX5_sum 36 = .ok (.iload_n 1, 1) := by decide +kernel
theorem dX5_sum_37 : decode cX5_sum 37 = .ok (.ireturn, 1) := by decide +kernel
theorem dX5_differencesTo_0 : decode cX5_differencesTo 0 = .ok (.iconst 0, 1) := by decide +kernel
theorem dX5_differencesTo_1 : decode cX5_differencesTo 1 = .ok (.istore_n 2, 1) := by decide +kernel
theorem dX5_differencesTo_2 : decode cX5_differencesTo 2 = .ok (.iconst 0, 1) := by decide +kernel
theorem dX5_differencesTo_3 : decode cX5_differencesTo 3 = .ok (.istore_n 3, 1) := by decide +kernel
theorem dX5_differencesTo_4 : decode cX5_differencesTo 4 = .ok (.iload_n 3, 1) := by decide +kernel
theorem dX5_differencesTo_5 : decode cX5_differencesTo 5 = .ok (.aload_n 0, 1) := by decide +kernel
theorem dX5_differencesTo_6 : decode cX5_differencesTo 6 = .ok (.getfield 13, 3) := by decide +kernel
theorem dX5_differencesTo_9 : decode cX5_differencesTo 9 = .ok (.arraylength, 1) := by decide +kernel
theorem dX5_differencesTo_10 : decode cX5_differencesTo 10 = .ok (.if_icmp .ge 26, 3) := by decide +kernel
theorem dX5_differencesTo_13 : decode cX5_differencesTo 13 = .ok (.aload_n 0, 1) := by decide +kernel
theorem dX5_differencesTo_14 : decode cX5_differencesTo 14 = .ok (.getfield 13, 3) := by decide +kernel
theorem dX5_differencesTo_17 : decode cX5_differencesTo 17 = .ok (.iload_n 3, 1) := by decide +kernel
theorem dX5_differencesTo_18 : decode cX5_differencesTo 18 = .ok (.iaload, 1) := by decide +kernel
theorem dX5_differencesTo_19 : decode cX5_differencesTo 19 = .ok (.aload_n 1, 1) := by decide +kernel
theorem dX5_differencesTo_20 : decode cX5_differencesTo 20 = .ok (.iload_n 3, 1) := by decide +kernel
theorem dX5_differencesTo_21 : decode cX5_differencesTo 21 = .ok (.invokevirtual 19, 3) := by decide +kernel
theorem dX5_differencesTo_24 : decode cX5_differencesTo 24 = .ok (.if_icmp .eq 6, 3) := by decide +kernel
theorem dX5_differencesTo_27 : decode cX5_differencesTo 27 = .ok (.iinc 2 1, 3) := by decide +kernel
theorem dX5_differencesTo_30 : decode cX5_differencesTo 30 = .ok (.iinc 3 1, 3) := by decide +kernel
theorem dX5_differencesTo_33 : decode cX5_differencesTo 33 = .ok (.goto (-29), 3) := by decide +kernel
theorem dX5_differencesTo_36 : decode cX5_differencesTo 36 = .ok (.iload_n 2, 1) := by decide +kernel
theorem dX5_differencesTo_37 : decode cX5_differencesTo 37 = .ok (.ireturn, 1) := by decide +kernel
theorem dX5_copyFrom_0 : decode cX5_copyFrom 0 = .ok (.aload_n 1, 1) := by decide +kernel
theorem dX5_copyFrom_1 : decode cX5_copyFrom 1 = .ok (.getfield 13, 3) := by decide +kernel
theorem dX5_copyFrom_4 : decode cX5_copyFrom 4 = .ok (.iconst 0, 1) := by decide +kernel
theorem dX5_copyFrom_5 : decode cX5_copyFrom 5 = .ok (.aload_n 0, 1) := by decide +kernel
theorem dX5_copyFrom_6 : decode cX5_copyFrom 6 = .ok (.getfield 13, 3) := by decide +kernel
theorem dX5_copyFrom_9 : decode cX5_copyFrom 9 = .ok (.iconst 0, 1) := by decide +kernel
theorem dX5_copyFrom_10 : decode cX5_copyFrom 10 = .ok (.aload_n 0, 1) := by decide +kernel
theorem dX5_copyFrom_11 : decode cX5_copyFrom 11 = .ok (.getfield 13, 3) := by decide +kernel
theorem dX5_copyFrom_14 : decode cX5_copyFrom 14 = .ok (.arraylength, 1) := by decide +kernel
theorem dX5_copyFrom_15 : decode cX5_copyFrom 15 = .ok (.aload_n 1, 1) := by decide +kernel
theorem dX5_copyFrom_16 : decode cX5_copyFrom 16 = .ok (.getfield 13, 3) := by decide +kernel
theorem dX5_copyFrom_19 : decode cX5_copyFrom 19 = .ok (.arraylength, 1) := by decide +kernel
theorem dX5_copyFrom_20 : decode cX5_copyFrom 20 = .ok (.invokestatic 23, 3) := by decide +kernel
theorem dX5_copyFrom_23 : decode cX5_copyFrom 23 = .ok (.invokestatic 26, 3) := by decide +kernel
theorem dX5_copyFrom_26 : decode cX5_copyFrom 26 = .ok (.return_, 1) := by decide +kernel
theorem dX6_init_0 : decode cX6_init 0 = .ok (.aload_n 0, 1) := by decide +kernel
theorem dX6_init_1 : decode cX6_init 1 = .ok (.invokespecial 3, 3) := by decide +kernel
theorem dX6_init_4 : decode cX6_init 4 = .ok (.aload_n 0, 1) := by decide +kernel
theorem dX6_init_5 : decode cX6_init 5 = .ok (.bipush 80, 2) := by decide +kernel
theorem dX6_init_7 : decode cX6_init 7 = .ok (.newarray .char, 2) := by decide +kernel
theorem dX6_init_9 : decode cX6_init 9 = .ok (.putfield 9, 3) := by decide +kernel
theorem dX6_init_12 : decode cX6_init 12 = .ok (.return_, 1) := by decide +kernel
theorem dX7_init_0 : decode cX7_init 0 = .ok (.aload_n 0, 1) := by decide +kernel
theorem dX7_init_1 : decode cX7_init 1 = .ok (.invokespecial 3, 3) := by decide +kernel
theorem dX7_init_4 : decode cX7_init 4 = .ok (.aload_n 0, 1) := by decide +kernel
theorem dX7_init_5 : decode cX7_init 5 = .ok (.new 9, 3) := by decide +kernel
theorem dX7_init_8 : decode cX7_init 8 = .ok (.dup, 1) := by decide +kernel
theorem dX7_init_9 : decode cX7_init 9 = .ok (.bipush 36, 2) := by decide +kernel
theorem dX7_init_11 : decode cX7_init 11 = .ok (.invokespecial 13, 3) := by decide +kernel
theorem dX7_init_14 : decode cX7_init 14 = .ok (.putfield 16, 3) := by decide +kernel
theorem dX7_init_17 : decode cX7_init 17 = .ok (.return_, 1) := by decide +kernel
theorem dX7_copyFrom_0 : decode cX7_copyFrom 0 = .ok (.aload_n 0, 1) := by decide +kernel
theorem dX7_copyFrom_1 : decode cX7_copyFrom 1 = .ok (.getfield 16, 3) := by decide +kernel
theorem dX7_copyFrom_4 : decode cX7_copyFrom 4 = .ok (.aload_n 1, 1) := by decide +kernel
theorem dX7_copyFrom_5 : decode cX7_copyFrom 5 = .ok (.getfield 16, 3) := by decide +kernel
theorem dX7_copyFrom_8 : decode cX7_copyFrom 8 = .ok (.invokevirtual 20, 3) := by decide +kernel
theorem dX7_copyFrom_11 : decode cX7_copyFrom 11 = .ok (.aload_n 0, 1) := by decide +kernel
theorem dX7_copyFrom_12 : decode cX7_copyFrom 12 = .ok (.aload_n 1, 1) := by decide +kernel
theorem dX7_copyFrom_13 : decode cX7_copyFrom 13 = .ok (.getfield 24, 3) := by decide +kernel
theorem dX7_copyFrom_16 : decode cX7_copyFrom 16 = .ok (.putfield 24, 3) := by decide +kernel
theorem dX7_copyFrom_19 : decode cX7_copyFrom 19 = .ok (.return_, 1) := by decide +kernel
theorem dX7_add_0 : decode cX7_add 0 = .ok (.aload_n 0, 1) := by decide +kernel
theorem dX7_add_1 : decode cX7_add 1 = .ok (.getfield 24, 3) := by decide +kernel
theorem dX7_add_4 : decode cX7_add 4 = .ok (.bipush 12, 2) := by decide +kernel
theorem dX7_add_6 : decode cX7_add 6 = .ok (.irem, 1) := by decide +kernel
theorem dX7_add_7 : decode cX7_add 7 = .ok (.iconst 3, 1) := by decide +kernel
theorem dX7_add_8 : decode cX7_add 8 = .ok (.imul, 1) := by decide +kernel
theorem dX7_add_9 : decode cX7_add 9 = .ok (.istore 4, 2) := by decide +kernel
theorem dX7_add_11 : decode cX7_add 11 = .ok (.aload_n 0, 1) := by decide +kernel
theorem dX7_add_12 : decode cX7_add 12 = .ok (.getfield 16, 3) := by decide +kernel
theorem dX7_add_15 : decode cX7_add 15 = .ok (.iload 4, 2) := by decide +kernel
theorem dX7_add_17 : decode cX7_add 17 = .ok (.iconst 0, 1) := by decide +kernel
theorem dX7_add_18 : decode cX7_add 18 = .ok (.iadd, 1) := by decide +kernel
theorem dX7_add_19 : decode cX7_add 19 = .ok (.iload_n 1, 1) := by decide +kernel
theorem dX7_add_20 : decode cX7_add 20 = .ok (.invokevirtual 28, 3) := by decide +kernel
theorem dX7_add_23 : decode cX7_add 23 = .ok (.aload_n 0, 1) := by decide +kernel
theorem dX7_add_24 : decode cX7_add 24 = .ok (.getfield 16, 3) := by decide +kernel
theorem dX7_add_27 : decode cX7_add 27 = .ok (.iload 4, 2) := by decide +kernel
theorem dX7_add_29 : decode cX7_add 29 = .ok (.iconst 1, 1) := by decide +kernel
theorem dX7_add_30 : decode cX7_add 30 = .ok (.iadd, 1) := by decide +kernel
theorem dX7_add_31 : decode cX7_add 31 = .ok (.iload_n 2, 1) := by decide +kernel
theorem dX7_add_32 : decode cX7_add 32 = .ok (.invokevirtual 28, 3) := by decide +kernel
theorem dX7_add_35 : decode cX7_add 35 = .ok (.aload_n 0, 1) := by decide +kernel
theorem dX7_add_36 : decode cX7_add 36 = .ok (.getfield 16, 3) := by decide +kernel
theorem dX7_add_39 : decode cX7_add 39 = .ok (.iload 4, 2) := by decide +kernel
theorem dX7_add_41 : decode cX7_add 41 = .ok (.iconst 2, 1) := by decide +kernel
theorem dX7_add_42 : decode cX7_add 42 = .ok (.iadd, 1) := by decide +kernel
theorem dX7_add_43 : decode cX7_add 43 = .ok (.iload_n 3, 1) := by decide +kernel
theorem dX7_add_44 : decode cX7_add 44 = .ok (.invokevirtual 28, 3) := by decide +kernel
theorem dX7_add_47 : decode cX7_add 47 = .ok (.aload_n 0, 1) := by decide +kernel
theorem dX7_add_48 : decode cX7_add 48 = .ok (.dup, 1) := by decide +kernel
theorem dX7_add_49 : decode cX7_add 49 = .ok (.getfield 24, 3) := by decide +kernel
theorem dX7_add_52 : decode cX7_add 52 = .ok (.iconst 1, 1) := by decide +kernel
theorem dX7_add_53 : decode cX7_add 53 = .ok (.iadd, 1) := by decide +kernel
theorem dX7_add_54 : decode cX7_add 54 = .ok (.putfield 24, 3) := by decide +kernel
theorem dX7_add_57 : decode cX7_add 57 = .ok (.return_, 1) := by decide +kernel
theorem dX7_tell_0 : decode cX7_tell 0 = .ok (.aload_n 0, 1) := by decide +kernel
theorem dX7_tell_1 : decode cX7_tell 1 = .ok (.getfield 16, 3) := by decide +kernel
theorem dX7_tell_4 : decode cX7_tell 4 = .ok (.aload_n 0, 1) := by decide +kernel
theorem dX7_tell_5 : decode cX7_tell 5 = .ok (.getfield 24, 3) := by decide +kernel
theorem dX7_tell_8 : decode cX7_tell 8 = .ok (.iconst 1, 1) := by decide +kernel
theorem dX7_tell_9 : decode cX7_tell 9 = .ok (.isub, 1) := by decide +kernel
theorem dX7_tell_10 : decode cX7_tell 10 = .ok (.iload_n 1, 1) := by decide +kernel
theorem dX7_tell_11 : decode cX7_tell 11 = .ok (.isub, 1) := by decide +kernel
theorem dX7_tell_12 : decode cX7_tell 12 = .ok (.bipush 12, 2) := by decide +kernel
theorem dX7_tell_14 : decode cX7_tell 14 = .ok (.irem, 1) := by decide +kernel
theorem dX7_tell_15 : decode cX7_tell 15 = .ok (.iconst 3, 1) := by decide +kernel
theorem dX7_tell_16 : decode cX7_tell 16 = .ok (.imul, 1) := by decide +kernel
theorem dX7_tell_17 : decode cX7_tell 17 = .ok (.iload_n 2, 1) := by decide +kernel
theorem dX7_tell_18 : decode cX7_tell 18 = .ok (.iadd, 1) := by decide +kernel
theorem dX7_tell_19 : decode cX7_tell 19 = .ok (.invokevirtual 32, 3) := by decide +kernel
theorem dX7_tell_22 : decode cX7_tell 22 = .ok (.ireturn, 1) := by decide +kernel
theorem dX8_init_0 : decode cX8_init 0 = .ok (.aload_n 0, 1) := by decide +kernel
theorem dX8_init_1 : decode cX8_init 1 = .ok (.invokespecial 1, 3) := by decide +kernel
theorem dX8_init_4 : decode cX8_init 4 = .ok (.aload_n 0, 1) := by decide +kernel
theorem dX8_init_5 : decode cX8_init 5 = .ok (.new 7, 3) := by decide +kernel
theorem dX8_init_8 : decode cX8_init 8 = .ok (.dup, 1) := by decide +kernel
theorem dX8_init_9 : decode cX8_init 9 = .ok (.invokespecial 9, 3) := by decide +kernel
theorem dX8_init_12 : decode cX8_init 12 = .ok (.putfield 10, 3) := by decide +kernel
theorem dX8_init_15 : decode cX8_init 15 = .ok (.aload_n 0, 1) := by decide +kernel
theorem dX8_init_16 : decode cX8_init 16 = .ok (.new 7, 3) := by decide +kernel
theorem dX8_init_19 : decode cX8_init 19 = .ok (.dup, 1) := by decide +kernel
theorem dX8_init_20 : decode cX8_init 20 = .ok (.invokespecial 9, 3) := by decide +kernel
theorem dX8_init_23 : decode cX8_init 23 = .ok (.putfield 16, 3) := by decide +kernel
theorem dX8_init_26 : decode cX8_init 26 = .ok (.aload_n 0, 1) := by decide +kernel
theorem dX8_init_27 : decode cX8_init 27 = .ok (.new 7, 3) := by decide +kernel
theorem dX8_init_30 : decode cX8_init 30 = .ok (.dup, 1) := by decide +kernel
theorem dX8_init_31 : decode cX8_init 31 = .ok (.invokespecial 9, 3) := by decide +kernel
theorem dX8_init_34 : decode cX8_init 34 = .ok (.putfield 19, 3) := by decide +kernel
theorem dX8_init_37 : decode cX8_init 37 = .ok (.aload_n 0, 1) := by decide +kernel
theorem dX8_init_38 : decode cX8_init 38 = .ok (.new 22, 3) := by decide +kernel
theorem dX8_init_41 : decode cX8_init 41 = .ok (.dup, 1) := by decide +kernel
theorem dX8_init_42 : decode cX8_init 42 = .ok (.invokespecial 24, 3) := by decide +kernel
theorem dX8_init_45 : decode cX8_init 45 = .ok (.putfield 25, 3) := by decide +kernel
theorem dX8_init_48 : decode cX8_init 48 = .ok (.aload_n 0, 1) := by decide +kernel
theorem dX8_init_49 : decode cX8_init 49 = .ok (.new 29, 3) := by decide +kernel
theorem dX8_init_52 : decode cX8_init 52 = .ok (.dup, 1) := by decide +kernel
theorem dX8_init_53 : decode cX8_init 53 = .ok (.invokespecial 31, 3) := by decide +kernel
theorem dX8_init_56 : decode cX8_init 56 = .ok (.putfield 32, 3) := by decide +kernel
theorem dX8_init_59 : decode cX8_init 59 = .ok (.aload_n 0, 1) := by decide +kernel
theorem dX8_init_60 : decode cX8_init 60 = .ok (.new 36, 3) := by decide +kernel
theorem dX8_init_63 : decode cX8_init 63 = .ok (.dup, 1) := by decide +kernel
theorem dX8_init_64 : decode cX8_init 64 = .ok (.invokespecial 38, 3) := by decide +kernel
theorem dX8_init_67 : decode cX8_init 67 = .ok (.putfield 39, 3) := by decide +kernel
theorem dX8_init_70 : decode cX8_init 70 = .ok (.return_, 1) := by decide +kernel
theorem dX8_put_0 : decode cX8_put 0 = .ok (.iload_n 1, 1) := by decide +kernel
theorem dX8_put_1 : decode cX8_put 1 = .ok (.bipush 8, 2) := by decide +kernel
theorem dX8_put_3 : decode cX8_put 3 = .ok (.invokestatic 43, 3) := by decide +kernel
theorem dX8_put_6 : decode cX8_put 6 = .ok (.ifCond .eq 12, 3) := by decide +kernel
theorem dX8_put_9 : decode cX8_put 9 = .ok (.iload_n 2, 1) := by decide +kernel
theorem dX8_put_10 : decode cX8_put 10 = .ok (.bipush 16, 2) := by decide +kernel
theorem dX8_put_12 : decode cX8_put 12 = .ok (.invokestatic 43, 3) := by decide +kernel
theorem dX8_put_15 : decode cX8_put 15 = .ok (.ifCond .ne 5, 3) := by decide +kernel
theorem dX8_put_18 : decode cX8_put 18 = .ok (.iconst (-1), 1) := by decide +kernel
theorem dX8_put_19 : decode cX8_put 19 = .ok (.ireturn, 1) := by decide +kernel
theorem dX8_put_20 : decode cX8_put 20 = .ok (.iload_n 3, 1) := by decide +kernel
theorem dX8_put_21 : decode cX8_put 21 = .ok (.ifCond .lt 10, 3) := by decide +kernel
theorem dX8_put_24 : decode cX8_put 24 = .ok (.iload_n 3, 1) := by decide +kernel
theorem dX8_put_25 : decode cX8_put 25 = .ok (.sipush 999, 3) := by decide +kernel
theorem dX8_put_28 : decode cX8_put 28 = .ok (.if_icmp .le 6, 3) := by decide +kernel
theorem dX8_put_31 : decode cX8_put 31 = .ok (.bipush (-2), 2) := by decide +kernel
theorem dX8_put_33 : decode cX8_put 33 = .ok (.ireturn, 1) := by decide +kernel
theorem dX8_put_34 : decode cX8_put 34 = .ok (.aload_n 0, 1) := by decide +kernel
theorem dX8_put_35 : decode cX8_put 35 = .ok (.getfield 10, 3) := by decide +kernel
theorem dX8_put_38 : decode cX8_put 38 = .ok (.getfield 47, 3) := by decide +kernel
theorem dX8_put_41 : decode cX8_put 41 = .ok (.iload_n 1, 1) := by decide +kernel
theorem dX8_put_42 : decode cX8_put 42 = .ok (.iload_n 2, 1) := by decide +kernel
theorem dX8_put_43 : decode cX8_put 43 = .ok (.invokevirtual 51, 3) := by decide +kernel
theorem dX8_put_46 : decode cX8_put 46 = .ok (.istore 4, 2) := by decide +kernel
theorem dX8_put_48 : decode cX8_put 48 = .ok (.iload 4, 2) := by decide +kernel
theorem dX8_put_50 : decode cX8_put 50 = .ok (.iload_n 3, 1) := by decide +kernel
theorem dX8_put_51 : decode cX8_put 51 = .ok (.if_icmp .ne 6, 3) := by decide +kernel
theorem dX8_put_54 : decode cX8_put 54 = .ok (.bipush (-5), 2) := by decide +kernel
theorem dX8_put_56 : decode cX8_put 56 = .ok (.ireturn, 1) := by decide +kernel
theorem dX8_put_57 : decode cX8_put 57 = .ok (.aload_n 0, 1) := by decide +kernel
theorem dX8_put_58 : decode cX8_put 58 = .ok (.getfield 25, 3) := by decide +kernel
theorem dX8_put_61 : decode cX8_put 61 = .ok (.aload_n 0, 1) := by decide +kernel
theorem dX8_put_62 : decode cX8_put 62 = .ok (.getfield 10, 3) := by decide +kernel
theorem dX8_put_65 : decode cX8_put 65 = .ok (.invokevirtual 57, 3) := by decide +kernel
theorem dX8_put_68 : decode cX8_put 68 = .ok (.aload_n 0, 1) := by decide +kernel
theorem dX8_put_69 : decode cX8_put 69 = .ok (.getfield 10, 3) := by decide +kernel
theorem dX8_put_72 : decode cX8_put 72 = .ok (.getfield 47, 3) := by decide +kernel
theorem dX8_put_75 : decode cX8_put 75 = .ok (.iload_n 1, 1) := by decide +kernel
theorem dX8_put_76 : decode cX8_put 76 = .ok (.iload_n 2, 1) := by decide +kernel
theorem dX8_put_77 : decode cX8_put 77 = .ok (.iload_n 3, 1) := by decide +kernel
theorem dX8_put_78 : decode cX8_put 78 = .ok (.invokevirtual 61, 3) := by decide +kernel
theorem dX8_put_81 : decode cX8_put 81 = .ok (.iload 4, 2) := by decide +kernel
theorem dX8_put_83 : decode cX8_put 83 = .ok (.ireturn, 1) := by decide +kernel
theorem dX8_lock_0 : decode cX8_lock 0 = .ok (.iload_n 1, 1) := by decide +kernel
theorem dX8_lock_1 : decode cX8_lock 1 = .ok (.bipush 8, 2) := by decide +kernel
theorem dX8_lock_3 : decode cX8_lock 3 = .ok (.invokestatic 43, 3) := by decide +kernel
theorem dX8_lock_6 : decode cX8_lock 6 = .ok (.ifCond .ne 5, 3) := by decide +kernel
theorem dX8_lock_9 : decode cX8_lock 9 = .ok (.iconst (-1), 1) := by decide +kernel
theorem dX8_lock_10 : decode cX8_lock 10 = .ok (.ireturn, 1) := by decide +kernel
theorem dX8_lock_11 : decode cX8_lock 11 = .ok (.aload_n 0, 1) := by decide +kernel
theorem dX8_lock_12 : decode cX8_lock 12 = .ok (.getfield 10, 3) := by decide +kernel
theorem dX8_lock_15 : decode cX8_lock 15 = .ok (.getfield 47, 3) := by decide +kernel
theorem dX8_lock_18 : decode cX8_lock 18 = .ok (.iload_n 1, 1) := by decide +kernel
theorem dX8_lock_19 : decode cX8_lock 19 = .ok (.invokevirtual 65, 3) := by decide +kernel
theorem dX8_lock_22 : decode cX8_lock 22 = .ok (.iload_n 2, 1) := by decide +kernel
theorem dX8_lock_23 : decode cX8_lock 23 = .ok (.if_icmp .ne 6, 3) := by decide +kernel
theorem dX8_lock_26 : decode cX8_lock 26 = .ok (.bipush (-5), 2) := by decide +kernel
theorem dX8_lock_28 : decode cX8_lock 28 = .ok (.ireturn, 1) := by decide +kernel
theorem dX8_lock_29 : decode cX8_lock 29 = .ok (.aload_n 0, 1) := by decide +kernel
theorem dX8_lock_30 : decode cX8_lock 30 = .ok (.getfield 25, 3) := by decide +kernel
theorem dX8_lock_33 : decode cX8_lock 33 = .ok (.aload_n 0, 1) := by decide +kernel
theorem dX8_lock_34 : decode cX8_lock 34 = .ok (.getfield 10, 3) := by decide +kernel
theorem dX8_lock_37 : decode cX8_lock 37 = .ok (.invokevirtual 57, 3) := by decide +kernel
theorem dX8_lock_40 : decode cX8_lock 40 = .ok (.aload_n 0, 1) := by decide +kernel
theorem dX8_lock_41 : decode cX8_lock 41 = .ok (.getfield 10, 3) := by decide +kernel
theorem dX8_lock_44 : decode cX8_lock 44 = .ok (.getfield 47, 3) := by decide +kernel
theorem dX8_lock_47 : decode cX8_lock 47 = .ok (.getfield 69, 3) := by decide +kernel
theorem dX8_lock_50 : decode cX8_lock 50 = .ok (.iload_n 1, 1) := by decide +kernel
theorem dX8_lock_51 : decode cX8_lock 51 = .ok (.iload_n 2, 1) := by decide +kernel
theorem dX8_lock_52 : decode cX8_lock 52 = .ok (.ifCond .eq 7, 3) := by decide +kernel
theorem dX8_lock_55 : decode cX8_lock 55 = .ok (.iconst 1, 1) := by decide +kernel
theorem dX8_lock_56 : decode cX8_lock 56 = .ok (.goto 4, 3) := by decide +kernel
theorem dX8_lock_59 : decode cX8_lock 59 = .ok (.iconst 0, 1) := by decide +kernel
theorem dX8_lock_60 : decode cX8_lock 60 = .ok (.invokevirtual 73, 3) := by decide +kernel
theorem dX8_lock_63 : decode cX8_lock 63 = .ok (.aload_n 0, 1) := by decide +kernel
theorem dX8_lock_64 : decode cX8_lock 64 = .ok (.getfield 10, 3) := by decide +kernel
theorem dX8_lock_67 : decode cX8_lock 67 = .ok (.getfield 47, 3) := by decide +kernel
theorem dX8_lock_70 : decode cX8_lock 70 = .ok (.getfield 69, 3) := by decide +kernel
theorem dX8_lock_73 : decode cX8_lock 73 = .ok (.invokevirtual 79, 3) := by decide +kernel
theorem dX8_lock_76 : decode cX8_lock 76 = .ok (.ireturn, 1) := by decide +kernel
theorem dX8_show_0 : decode cX8_show 0 = .ok (.iload_n 1, 1) := by decide +kernel
theorem dX8_show_1 : decode cX8_show 1 = .ok (.iconst 4, 1) := by decide +kernel
theorem dX8_show_2 : decode cX8_show 2 = .ok (.invokestatic 43, 3) := by decide +kernel
theorem dX8_show_5 : decode cX8_show 5 = .ok (.ifCond .eq 12, 3) := by decide +kernel
theorem dX8_show_8 : decode cX8_show 8 = .ok (.iload_n 2, 1) := by decide +kernel
theorem dX8_show_9 : decode cX8_show 9 = .ok (.bipush 8, 2) := by decide +kernel
theorem dX8_show_11 : decode cX8_show 11 = .ok (.invokestatic 43, 3) := by decide +kernel
theorem dX8_show_14 : decode cX8_show 14 = .ok (.ifCond .ne 5, 3) := by decide +kernel
theorem dX8_show_17 : decode cX8_show 17 = .ok (.iconst (-1), 1) := by decide +kernel
theorem dX8_show_18 : decode cX8_show 18 = .ok (.ireturn, 1) := by decide +kernel
theorem dX8_show_19 : decode cX8_show 19 = .ok (.aload_n 0, 1) := by decide +kernel
theorem dX8_show_20 : decode cX8_show 20 = .ok (.getfield 10, 3) := by decide +kernel
theorem dX8_show_23 : decode cX8_show 23 = .ok (.getfield 47, 3) := by decide +kernel
theorem dX8_show_26 : decode cX8_show 26 = .ok (.getfield 83, 3) := by decide +kernel
theorem dX8_show_29 : decode cX8_show 29 = .ok (.iload_n 1, 1) := by decide +kernel
theorem dX8_show_30 : decode cX8_show 30 = .ok (.invokevirtual 86, 3) := by decide +kernel
theorem dX8_show_33 : decode cX8_show 33 = .ok (.istore_n 3, 1) := by decide +kernel
theorem dX8_show_34 : decode cX8_show 34 = .ok (.iload_n 3, 1) := by decide +kernel
theorem dX8_show_35 : decode cX8_show 35 = .ok (.iload_n 2, 1) := by decide +kernel
theorem dX8_show_36 : decode cX8_show 36 = .ok (.if_icmp .ne 6, 3) := by decide +kernel
theorem dX8_show_39 : decode cX8_show 39 = .ok (.bipush (-5), 2) := by decide +kernel
theorem dX8_show_41 : decode cX8_show 41 = .ok (.ireturn, 1) := by decide +kernel
theorem dX8_show_42 : decode cX8_show 42 = .ok (.aload_n 0, 1) := by decide +kernel
theorem dX8_show_43 : decode cX8_show 43 = .ok (.getfield 25, 3) := by decide +kernel
theorem dX8_show_46 : decode cX8_show 46 = .ok (.aload_n 0, 1) := by decide +kernel
theorem dX8_show_47 : decode cX8_show 47 = .ok (.getfield 10, 3) := by decide +kernel
theorem dX8_show_50 : decode cX8_show 50 = .ok (.invokevirtual 57, 3) := by decide +kernel
theorem dX8_show_53 : decode cX8_show 53 = .ok (.aload_n 0, 1) := by decide +kernel
theorem dX8_show_54 : decode cX8_show 54 = .ok (.getfield 10, 3) := by decide +kernel
theorem dX8_show_57 : decode cX8_show 57 = .ok (.getfield 47, 3) := by decide +kernel
theorem dX8_show_60 : decode cX8_show 60 = .ok (.getfield 83, 3) := by decide +kernel
theorem dX8_show_63 : decode cX8_show 63 = .ok (.iload_n 1, 1) := by decide +kernel
theorem dX8_show_64 : decode cX8_show 64 = .ok (.iload_n 2, 1) := by decide +kernel
theorem dX8_show_65 : decode cX8_show 65 = .ok (.invokevirtual 73, 3) := by decide +kernel
theorem dX8_show_68 : decode cX8_show 68 = .ok (.iload_n 3, 1) := by decide +kernel
theorem dX8_show_69 : decode cX8_show 69 = .ok (.ireturn, 1) := by decide +kernel
theorem dX8_copyBank_0 : decode cX8_copyBank 0 = .ok (.iload_n 1, 1) := by decide +kernel
theorem dX8_copyBank_1 : decode cX8_copyBank 1 = .ok (.bipush 8, 2) := by decide +kernel
theorem dX8_copyBank_3 : decode cX8_copyBank 3 = .ok (.invokestatic 43, 3) := by decide +kernel
theorem dX8_copyBank_6 : decode cX8_copyBank 6 = .ok (.ifCond .eq 12, 3) := by decide +kernel
theorem dX8_copyBank_9 : decode cX8_copyBank 9 = .ok (.iload_n 2, 1) := by decide +kernel
theorem dX8_copyBank_10 : decode cX8_copyBank 10 = .ok (.bipush 8, 2) := by decide +kernel
theorem dX8_copyBank_12 : decode cX8_copyBank 12 = .ok (.invokestatic 43, 3) := by decide +kernel
theorem dX8_copyBank_15 : decode cX8_copyBank 15 = .ok (.ifCond .ne 5, 3) := by decide +kernel
theorem dX8_copyBank_18 : decode cX8_copyBank 18 = .ok (.iconst (-1), 1) := by decide +kernel
theorem dX8_copyBank_19 : decode cX8_copyBank 19 = .ok (.ireturn, 1) := by decide +kernel
theorem dX8_copyBank_20 : decode cX8_copyBank 20 = .ok (.aload_n 0, 1) := by decide +kernel
theorem dX8_copyBank_21 : decode cX8_copyBank 21 = .ok (.getfield 10, 3) := by decide +kernel
theorem dX8_copyBank_24 : decode cX8_copyBank 24 = .ok (.getfield 47, 3) := by decide +kernel
theorem dX8_copyBank_27 : decode cX8_copyBank 27 = .ok (.iload_n 1, 1) := by decide +kernel
theorem dX8_copyBank_28 : decode cX8_copyBank 28 = .ok (.iload_n 2, 1) := by decide +kernel
theorem dX8_copyBank_29 : decode cX8_copyBank 29 = .ok (.invokevirtual 90, 3) := by decide +kernel
theorem dX8_copyBank_32 : decode cX8_copyBank 32 = .ok (.istore_n 3, 1) := by decide +kernel
theorem dX8_copyBank_33 : decode cX8_copyBank 33 = .ok (.iload_n 3, 1) := by decide +kernel
theorem dX8_copyBank_34 : decode cX8_copyBank 34 = .ok (.ifCond .ne 6, 3) := by decide +kernel
theorem dX8_copyBank_37 : decode cX8_copyBank 37 = .ok (.bipush (-5), 2) := by decide +kernel
theorem dX8_copyBank_39 : decode cX8_copyBank 39 = .ok (.ireturn, 1) := by decide +kernel
theorem dX8_copyBank_40 : decode cX8_copyBank 40 = .ok (.aload_n 0, 1) := by decide +kernel
theorem dX8_copyBank_41 : decode cX8_copyBank 41 = .ok (.getfield 25, 3) := by decide +kernel
theorem dX8_copyBank_44 : decode cX8_copyBank 44 = .ok (.aload_n 0, 1) := by decide +kernel
theorem dX8_copyBank_45 : decode cX8_copyBank 45 = .ok (.getfield 10, 3) := by decide +kernel
theorem dX8_copyBank_48 : decode cX8_copyBank 48 = .ok (.invokevirtual 57, 3) := by decide +kernel
theorem dX8_copyBank_51 : decode cX8_copyBank 51 = .ok (.aload_n 0, 1) := by decide +kernel
theorem dX8_copyBank_52 : decode cX8_copyBank 52 = .ok (.getfield 10, 3) := by decide +kernel
theorem dX8_copyBank_55 : decode cX8_copyBank 55 = .ok (.getfield 47, 3) := by decide +kernel
theorem dX8_copyBank_58 : decode cX8_copyBank 58 = .ok (.iload_n 1, 1) := by decide +kernel
theorem dX8_copyBank_59 : decode cX8_copyBank 59 = .ok (.iload_n 2, 1) := by decide +kernel
theorem dX8_copyBank_60 : decode cX8_copyBank 60 = .ok (.invokevirtual 93, 3) := by decide +kernel
theorem dX8_copyBank_63 : decode cX8_copyBank 63 = .ok (.iload_n 3, 1) := by decide +kernel
theorem dX8_copyBank_64 : decode cX8_copyBank 64 = .ok (.ireturn, 1) := by decide +kernel
theorem dX8_set_0 : decode cX8_set 0 = .ok (.iload_n 1, 1) := by decide +kernel
theorem dX8_set_1 : decode cX8_set 1 = .ok (.iconst 2, 1) := by decide +kernel
theorem dX8_set_2 : decode cX8_set 2 = .ok (.invokestatic 43, 3) := by decide +kernel
theorem dX8_set_5 : decode cX8_set 5 = .ok (.ifCond .ne 6, 3) := by decide +kernel
theorem dX8_set_8 : decode cX8_set 8 = .ok (.bipush (-2), 2) := by decide +kernel
theorem dX8_set_10 : decode cX8_set 10 = .ok (.ireturn, 1) := by decide +kernel
theorem dX8_set_11 : decode cX8_set 11 = .ok (.aload_n 0, 1) := by decide +kernel
theorem dX8_set_12 : decode cX8_set 12 = .ok (.getfield 10, 3) := by decide +kernel
theorem dX8_set_15 : decode cX8_set 15 = .ok (.getfield 96, 3) := by decide +kernel
theorem dX8_set_18 : decode cX8_set 18 = .ok (.istore_n 2, 1) := by decide +kernel
theorem dX8_set_19 : decode cX8_set 19 = .ok (.iload_n 2, 1) := by decide +kernel
theorem dX8_set_20 : decode cX8_set 20 = .ok (.iload_n 1, 1) := by decide +kernel
theorem dX8_set_21 : decode cX8_set 21 = .ok (.if_icmp .ne 6, 3) := by decide +kernel
theorem dX8_set_24 : decode cX8_set 24 = .ok (.bipush (-5), 2) := by decide +kernel
theorem dX8_set_26 : decode cX8_set 26 = .ok (.ireturn, 1) := by decide +kernel
theorem dX8_set_27 : decode cX8_set 27 = .ok (.aload_n 0, 1) := by decide +kernel
theorem dX8_set_28 : decode cX8_set 28 = .ok (.getfield 25, 3) := by decide +kernel
theorem dX8_set_31 : decode cX8_set 31 = .ok (.aload_n 0, 1) := by decide +kernel
theorem dX8_set_32 : decode cX8_set 32 = .ok (.getfield 10, 3) := by decide +kernel
theorem dX8_set_35 : decode cX8_set 35 = .ok (.invokevirtual 57, 3) := by decide +kernel
theorem dX8_set_38 : decode cX8_set 38 = .ok (.aload_n 0, 1) := by decide +kernel
theorem dX8_set_39 : decode cX8_set 39 = .ok (.getfield 10, 3) := by decide +kernel
theorem dX8_set_42 : decode cX8_set 42 = .ok (.iload_n 1, 1) := by decide +kernel
theorem dX8_set_43 : decode cX8_set 43 = .ok (.putfield 96, 3) := by decide +kernel
theorem dX8_set_46 : decode cX8_set 46 = .ok (.iload_n 2, 1) := by decide +kernel
theorem dX8_set_47 : decode cX8_set 47 = .ok (.ireturn, 1) := by decide +kernel
theorem dX8_begin_0 : decode cX8_begin 0 = .ok (.iload_n 1, 1) := by decide +kernel
theorem dX8_begin_1 : decode cX8_begin 1 = .ok (.bipush 64, 2) := by decide +kernel
theorem dX8_begin_3 : decode cX8_begin 3 = .ok (.invokestatic 43, 3) := by decide +kernel
theorem dX8_begin_6 : decode cX8_begin 6 = .ok (.ifCond .ne 5, 3) := by decide +kernel
theorem dX8_begin_9 : decode cX8_begin 9 = .ok (.iconst (-1), 1) := by decide +kernel
theorem dX8_begin_10 : decode cX8_begin 10 = .ok (.ireturn, 1) := by decide +kernel
theorem dX8_begin_11 : decode cX8_begin 11 = .ok (.aload_n 0, 1) := by decide +kernel
theorem dX8_begin_12 : decode cX8_begin 12 = .ok (.getfield 10, 3) := by decide +kernel
theorem dX8_begin_15 : decode cX8_begin 15 = .ok (.getfield 100, 3) := by decide +kernel
theorem dX8_begin_18 : decode cX8_begin 18 = .ok (.istore_n 2, 1) := by decide +kernel
theorem dX8_begin_19 : decode cX8_begin 19 = .ok (.aload_n 0, 1) := by decide +kernel
theorem dX8_begin_20 : decode cX8_begin 20 = .ok (.getfield 25, 3) := by decide +kernel
theorem dX8_begin_23 : decode cX8_begin 23 = .ok (.aload_n 0, 1) := by decide +kernel
theorem dX8_begin_24 : decode cX8_begin 24 = .ok (.getfield 10, 3) := by decide +kernel
theorem dX8_begin_27 : decode cX8_begin 27 = .ok (.invokevirtual 57, 3) := by decide +kernel
theorem dX8_begin_30 : decode cX8_begin 30 = .ok (.aload_n 0, 1) := by decide +kernel
theorem dX8_begin_31 : decode cX8_begin 31 = .ok (.getfield 10, 3) := by decide +kernel
theorem dX8_begin_34 : decode cX8_begin 34 = .ok (.iload_n 1, 1) := by decide +kernel
theorem dX8_begin_35 : decode cX8_begin 35 = .ok (.invokevirtual 103, 3) := by decide +kernel
theorem dX8_begin_38 : decode cX8_begin 38 = .ok (.iload_n 2, 1) := by decide +kernel
theorem dX8_begin_39 : decode cX8_begin 39 = .ok (.ireturn, 1) := by decide +kernel
theorem dX8_run_0 : decode cX8_run 0 = .ok (.iload_n 1, 1) := by decide +kernel
theorem dX8_run_1 : decode cX8_run 1 = .ok (.invokestatic 107, 3) := by decide +kernel
theorem dX8_run_4 : decode cX8_run 4 = .ok (.ifCond .ne 6, 3) := by decide +kernel
theorem dX8_run_7 : decode cX8_run 7 = .ok (.bipush (-2), 2) := by decide +kernel
theorem dX8_run_9 : decode cX8_run 9 = .ok (.ireturn, 1) := by decide +kernel
theorem dX8_run_10 : decode cX8_run 10 = .ok (.aload_n 0, 1) := by decide +kernel
theorem dX8_run_11 : decode cX8_run 11 = .ok (.getfield 10, 3) := by decide +kernel
theorem dX8_run_14 : decode cX8_run 14 = .ok (.getfield 110, 3) := by decide +kernel
theorem dX8_run_17 : decode cX8_run 17 = .ok (.ifCond .eq 6, 3) := by decide +kernel
theorem dX8_run_20 : decode cX8_run 20 = .ok (.bipush (-4), 2) := by decide +kernel
theorem dX8_run_22 : decode cX8_run 22 = .ok (.ireturn, 1) := by decide +kernel
theorem dX8_run_23 : decode cX8_run 23 = .ok (.aload_n 0, 1) := by decide +kernel
theorem dX8_run_24 : decode cX8_run 24 = .ok (.getfield 10, 3) := by decide +kernel
theorem dX8_run_27 : decode cX8_run 27 = .ok (.getfield 113, 3) := by decide +kernel
theorem dX8_run_30 : decode cX8_run 30 = .ok (.getfield 117, 3) := by decide +kernel
theorem dX8_run_33 : decode cX8_run 33 = .ok (.iload_n 1, 1) := by decide +kernel
theorem dX8_run_34 : decode cX8_run 34 = .ok (.iadd, 1) := by decide +kernel
theorem dX8_run_35 : decode cX8_run 35 = .ok (.ldc 122, 2) := by decide +kernel
theorem dX8_run_37 : decode cX8_run 37 = .ok (.if_icmp .le 6, 3) := by decide +kernel
theorem dX8_run_40 : decode cX8_run 40 = .ok (.bipush (-3), 2) := by decide +kernel
theorem dX8_run_42 : decode cX8_run 42 = .ok (.ireturn, 1) := by decide +kernel
theorem dX8_run_43 : decode cX8_run 43 = .ok (.aload_n 0, 1) := by decide +kernel
theorem dX8_run_44 : decode cX8_run 44 = .ok (.getfield 25, 3) := by decide +kernel
theorem dX8_run_47 : decode cX8_run 47 = .ok (.aload_n 0, 1) := by decide +kernel
theorem dX8_run_48 : decode cX8_run 48 = .ok (.getfield 10, 3) := by decide +kernel
theorem dX8_run_51 : decode cX8_run 51 = .ok (.invokevirtual 57, 3) := by decide +kernel
theorem dX8_run_54 : decode cX8_run 54 = .ok (.aload_n 0, 1) := by decide +kernel
theorem dX8_run_55 : decode cX8_run 55 = .ok (.getfield 10, 3) := by decide +kernel
theorem dX8_run_58 : decode cX8_run 58 = .ok (.iload_n 1, 1) := by decide +kernel
theorem dX8_run_59 : decode cX8_run 59 = .ok (.invokevirtual 123, 3) := by decide +kernel
theorem dX8_run_62 : decode cX8_run 62 = .ok (.ireturn, 1) := by decide +kernel
theorem dX8_undo_0 : decode cX8_undo 0 = .ok (.aload_n 0, 1) := by decide +kernel
theorem dX8_undo_1 : decode cX8_undo 1 = .ok (.getfield 25, 3) := by decide +kernel
theorem dX8_undo_4 : decode cX8_undo 4 = .ok (.getfield 154, 3) := by decide +kernel
theorem dX8_undo_7 : decode cX8_undo 7 = .ok (.ifCond .ne 6, 3) := by decide +kernel
theorem dX8_undo_10 : decode cX8_undo 10 = .ok (.bipush (-5), 2) := by decide +kernel
theorem dX8_undo_12 : decode cX8_undo 12 = .ok (.ireturn, 1) := by decide +kernel
theorem dX8_undo_13 : decode cX8_undo 13 = .ok (.aload_n 0, 1) := by decide +kernel
theorem dX8_undo_14 : decode cX8_undo 14 = .ok (.getfield 25, 3) := by decide +kernel
theorem dX8_undo_17 : decode cX8_undo 17 = .ok (.aload_n 0, 1) := by decide +kernel
theorem dX8_undo_18 : decode cX8_undo 18 = .ok (.getfield 10, 3) := by decide +kernel
theorem dX8_undo_21 : decode cX8_undo 21 = .ok (.invokevirtual 155, 3) := by decide +kernel
theorem dX8_undo_24 : decode cX8_undo 24 = .ok (.aload_n 0, 1) := by decide +kernel
theorem dX8_undo_25 : decode cX8_undo 25 = .ok (.getfield 25, 3) := by decide +kernel
theorem dX8_undo_28 : decode cX8_undo 28 = .ok (.getfield 154, 3) := by decide +kernel
theorem dX8_undo_31 : decode cX8_undo 31 = .ok (.ireturn, 1) := by decide +kernel
theorem dX8_restore_0 : decode cX8_restore 0 = .ok (.aload_n 0, 1) := by decide +kernel
theorem dX8_restore_1 : decode cX8_restore 1 = .ok (.getfield 161, 3) := by decide +kernel
theorem dX8_restore_4 : decode cX8_restore 4 = .ok (.ifCond .ne 6, 3) := by decide +kernel
theorem dX8_restore_7 : decode cX8_restore 7 = .ok (.bipush (-5), 2) := by decide +kernel
theorem dX8_restore_9 : decode cX8_restore 9 = .ok (.ireturn, 1) := by decide +kernel
theorem dX8_restore_10 : decode cX8_restore 10 = .ok (.aload_n 0, 1) := by decide +kernel
theorem dX8_restore_11 : decode cX8_restore 11 = .ok (.getfield 25, 3) := by decide +kernel
theorem dX8_restore_14 : decode cX8_restore 14 = .ok (.aload_n 0, 1) := by decide +kernel
theorem dX8_restore_15 : decode cX8_restore 15 = .ok (.getfield 10, 3) := by decide +kernel
theorem dX8_restore_18 : decode cX8_restore 18 = .ok (.invokevirtual 57, 3) := by decide +kernel
theorem dX8_restore_21 : decode cX8_restore 21 = .ok (.aload_n 0, 1) := by decide +kernel
theorem dX8_restore_22 : decode cX8_restore 22 = .ok (.getfield 10, 3) := by decide +kernel
theorem dX8_restore_25 : decode cX8_restore 25 = .ok (.aload_n 0, 1) := by decide +kernel
theorem dX8_restore_26 : decode cX8_restore 26 = .ok (.getfield 19, 3) := by decide +kernel
theorem dX8_restore_29 : decode cX8_restore 29 = .ok (.invokevirtual 158, 3) := by decide +kernel
theorem dX8_restore_32 : decode cX8_restore 32 = .ok (.aload_n 0, 1) := by decide +kernel
theorem dX8_restore_33 : decode cX8_restore 33 = .ok (.getfield 10, 3) := by decide +kernel
theorem dX8_restore_36 : decode cX8_restore 36 = .ok (.getfield 100, 3) := by decide +kernel
theorem dX8_restore_39 : decode cX8_restore 39 = .ok (.ireturn, 1) := by decide +kernel
theorem dX8_cell_0 : decode cX8_cell 0 = .ok (.iload_n 1, 1) := by decide +kernel
theorem dX8_cell_1 : decode cX8_cell 1 = .ok (.bipush 8, 2) := by decide +kernel
theorem dX8_cell_3 : decode cX8_cell 3 = .ok (.invokestatic 43, 3) := by decide +kernel
theorem dX8_cell_6 : decode cX8_cell 6 = .ok (.ifCond .eq 12, 3) := by decide +kernel
theorem dX8_cell_9 : decode cX8_cell 9 = .ok (.iload_n 2, 1) := by decide +kernel
theorem dX8_cell_10 : decode cX8_cell 10 = .ok (.bipush 16, 2) := by decide +kernel
theorem dX8_cell_12 : decode cX8_cell 12 = .ok (.invokestatic 43, 3) := by decide +kernel
theorem dX8_cell_15 : decode cX8_cell 15 = .ok (.ifCond .ne 5, 3) := by decide +kernel
theorem dX8_cell_18 : decode cX8_cell 18 = .ok (.iconst (-1), 1) := by decide +kernel
theorem dX8_cell_19 : decode cX8_cell 19 = .ok (.ireturn, 1) := by decide +kernel
theorem dX8_cell_20 : decode cX8_cell 20 = .ok (.aload_n 0, 1) := by decide +kernel
theorem dX8_cell_21 : decode cX8_cell 21 = .ok (.getfield 10, 3) := by decide +kernel
theorem dX8_cell_24 : decode cX8_cell 24 = .ok (.getfield 47, 3) := by decide +kernel
theorem dX8_cell_27 : decode cX8_cell 27 = .ok (.iload_n 1, 1) := by decide +kernel
theorem dX8_cell_28 : decode cX8_cell 28 = .ok (.iload_n 2, 1) := by decide +kernel
theorem dX8_cell_29 : decode cX8_cell 29 = .ok (.invokevirtual 51, 3) := by decide +kernel
theorem dX8_cell_32 : decode cX8_cell 32 = .ok (.ireturn, 1) := by decide +kernel
theorem dX8_address_0 : decode cX8_address 0 = .ok (.iload_n 1, 1) := by decide +kernel
theorem dX8_address_1 : decode cX8_address 1 = .ok (.bipush 64, 2) := by decide +kernel
theorem dX8_address_3 : decode cX8_address 3 = .ok (.invokestatic 43, 3) := by decide +kernel
theorem dX8_address_6 : decode cX8_address 6 = .ok (.ifCond .ne 5, 3) := by decide +kernel
theorem dX8_address_9 : decode cX8_address 9 = .ok (.iconst (-1), 1) := by decide +kernel
theorem dX8_address_10 : decode cX8_address 10 = .ok (.ireturn, 1) := by decide +kernel
theorem dX8_address_11 : decode cX8_address 11 = .ok (.iload_n 2, 1) := by decide +kernel
theorem dX8_address_12 : decode cX8_address 12 = .ok (.tableswitch 73 0 3 #[32, 44, 56, 61], 32) := by decide +kernel
theorem dX8_address_44 : decode cX8_address 44 = .ok (.aload_n 0, 1) := by decide +kernel
theorem dX8_address_45 : decode cX8_address 45 = .ok (.getfield 10, 3) := by decide +kernel
theorem dX8_address_48 : decode cX8_address 48 = .ok (.getfield 47, 3) := by decide +kernel
theorem dX8_address_51 : decode cX8_address 51 = .ok (.iload_n 1, 1) := by decide +kernel
theorem dX8_address_52 : decode cX8_address 52 = .ok (.invokevirtual 164, 3) := by decide +kernel
theorem dX8_address_55 : decode cX8_address 55 = .ok (.ireturn, 1) := by decide +kernel
theorem dX8_address_56 : decode cX8_address 56 = .ok (.aload_n 0, 1) := by decide +kernel
theorem dX8_address_57 : decode cX8_address 57 = .ok (.getfield 10, 3) := by decide +kernel
theorem dX8_address_60 : decode cX8_address 60 = .ok (.getfield 47, 3) := by decide +kernel
theorem dX8_address_63 : decode cX8_address 63 = .ok (.iload_n 1, 1) := by decide +kernel
theorem dX8_address_64 : decode cX8_address 64 = .ok (.invokevirtual 167, 3) := by decide +kernel
theorem dX8_address_67 : decode cX8_address 67 = .ok (.ireturn, 1) := by decide +kernel
theorem dX8_address_68 : decode cX8_address 68 = .ok (.iload_n 1, 1) := by decide +kernel
theorem dX8_address_69 : decode cX8_address 69 = .ok (.bipush 16, 2) := by decide +kernel
theorem dX8_address_71 : decode cX8_address 71 = .ok (.irem, 1) := by decide +kernel
theorem dX8_address_72 : decode cX8_address 72 = .ok (.ireturn, 1) := by decide +kernel
theorem dX8_address_73 : decode cX8_address 73 = .ok (.aload_n 0, 1) := by decide +kernel
theorem dX8_address_74 : decode cX8_address 74 = .ok (.getfield 10, 3) := by decide +kernel
theorem dX8_address_77 : decode cX8_address 77 = .ok (.getfield 47, 3) := by decide +kernel
theorem dX8_address_80 : decode cX8_address 80 = .ok (.iload_n 1, 1) := by decide +kernel
theorem dX8_address_81 : decode cX8_address 81 = .ok (.invokevirtual 170, 3) := by decide +kernel
theorem dX8_address_84 : decode cX8_address 84 = .ok (.ireturn, 1) := by decide +kernel
theorem dX8_address_85 : decode cX8_address 85 = .ok (.bipush (-2), 2) := by decide +kernel
theorem dX8_address_87 : decode cX8_address 87 = .ok (.ireturn, 1) := by decide +kernel
theorem dX8_bank_0 : decode cX8_bank 0 = .ok (.iload_n 1, 1) := by decide +kernel
theorem dX8_bank_1 : decode cX8_bank 1 = .ok (.bipush 8, 2) := by decide +kernel
theorem dX8_bank_3 : decode cX8_bank 3 = .ok (.invokestatic 43, 3) := by decide +kernel
theorem dX8_bank_6 : decode cX8_bank 6 = .ok (.ifCond .ne 5, 3) := by decide +kernel
theorem dX8_bank_9 : decode cX8_bank 9 = .ok (.iconst (-1), 1) := by decide +kernel
theorem dX8_bank_10 : decode cX8_bank 10 = .ok (.ireturn, 1) := by decide +kernel
theorem dX8_bank_11 : decode cX8_bank 11 = .ok (.iload_n 2, 1) := by decide +kernel
theorem dX8_bank_12 : decode cX8_bank 12 = .ok (.tableswitch 121 0 5 #[40, 55, 67, 79, 91, 106], 40) := by decide +kernel
theorem dX8_bank_52 : decode cX8_bank 52 = .ok (.aload_n 0, 1) := by decide +kernel
theorem dX8_bank_53 : decode cX8_bank 53 = .ok (.getfield 10, 3) := by decide +kernel
theorem dX8_bank_56 : decode cX8_bank 56 = .ok (.getfield 47, 3) := by decide +kernel
theorem dX8_bank_59 : decode cX8_bank 59 = .ok (.getfield 69, 3) := by decide +kernel
theorem dX8_bank_62 : decode cX8_bank 62 = .ok (.iload_n 1, 1) := by decide +kernel
theorem dX8_bank_63 : decode cX8_bank 63 = .ok (.invokevirtual 86, 3) := by decide +kernel
theorem dX8_bank_66 : decode cX8_bank 66 = .ok (.ireturn, 1) := by decide +kernel
theorem dX8_bank_67 : decode cX8_bank 67 = .ok (.aload_n 0, 1) := by decide +kernel
theorem dX8_bank_68 : decode cX8_bank 68 = .ok (.getfield 10, 3) := by decide +kernel
theorem dX8_bank_71 : decode cX8_bank 71 = .ok (.getfield 47, 3) := by decide +kernel
theorem dX8_bank_74 : decode cX8_bank 74 = .ok (.iload_n 1, 1) := by decide +kernel
theorem dX8_bank_75 : decode cX8_bank 75 = .ok (.invokevirtual 173, 3) := by decide +kernel
theorem dX8_bank_78 : decode cX8_bank 78 = .ok (.ireturn, 1) := by decide +kernel
theorem dX8_bank_79 : decode cX8_bank 79 = .ok (.aload_n 0, 1) := by decide +kernel
theorem dX8_bank_80 : decode cX8_bank 80 = .ok (.getfield 10, 3) := by decide +kernel
theorem dX8_bank_83 : decode cX8_bank 83 = .ok (.getfield 47, 3) := by decide +kernel
theorem dX8_bank_86 : decode cX8_bank 86 = .ok (.iload_n 1, 1) := by decide +kernel
theorem dX8_bank_87 : decode cX8_bank 87 = .ok (.invokevirtual 176, 3) := by decide +kernel
theorem dX8_bank_90 : decode cX8_bank 90 = .ok (.ireturn, 1) := by decide +kernel
theorem dX8_bank_91 : decode cX8_bank 91 = .ok (.aload_n 0, 1) := by decide +kernel
theorem dX8_bank_92 : decode cX8_bank 92 = .ok (.getfield 10, 3) := by decide +kernel
theorem dX8_bank_95 : decode cX8_bank 95 = .ok (.getfield 179, 3) := by decide +kernel
theorem dX8_bank_98 : decode cX8_bank 98 = .ok (.iload_n 1, 1) := by decide +kernel
theorem dX8_bank_99 : decode cX8_bank 99 = .ok (.invokevirtual 183, 3) := by decide +kernel
theorem dX8_bank_102 : decode cX8_bank 102 = .ok (.ireturn, 1) := by decide +kernel
theorem dX8_bank_103 : decode cX8_bank 103 = .ok (.aload_n 0, 1) := by decide +kernel
theorem dX8_bank_104 : decode cX8_bank 104 = .ok (.getfield 10, 3) := by decide +kernel
theorem dX8_bank_107 : decode cX8_bank 107 = .ok (.getfield 47, 3) := by decide +kernel
theorem dX8_bank_110 : decode cX8_bank 110 = .ok (.getfield 188, 3) := by decide +kernel
theorem dX8_bank_113 : decode cX8_bank 113 = .ok (.iload_n 1, 1) := by decide +kernel
theorem dX8_bank_114 : decode cX8_bank 114 = .ok (.invokevirtual 86, 3) := by decide +kernel
theorem dX8_bank_117 : decode cX8_bank 117 = .ok (.ireturn, 1) := by decide +kernel
theorem dX8_bank_118 : decode cX8_bank 118 = .ok (.aload_n 0, 1) := by decide +kernel
theorem dX8_bank_119 : decode cX8_bank 119 = .ok (.getfield 10, 3) := by decide +kernel
theorem dX8_bank_122 : decode cX8_bank 122 = .ok (.getfield 47, 3) := by decide +kernel
theorem dX8_bank_125 : decode cX8_bank 125 = .ok (.getfield 191, 3) := by decide +kernel
theorem dX8_bank_128 : decode cX8_bank 128 = .ok (.iload_n 1, 1) := by decide +kernel
theorem dX8_bank_129 : decode cX8_bank 129 = .ok (.invokevirtual 86, 3) := by decide +kernel
theorem dX8_bank_132 : decode cX8_bank 132 = .ok (.ireturn, 1) := by decide +kernel
theorem dX8_bank_133 : decode cX8_bank 133 = .ok (.bipush (-2), 2) := by decide +kernel
theorem dX8_bank_135 : decode cX8_bank 135 = .ok (.ireturn, 1) := by decide +kernel
theorem dX8_window_0 : decode cX8_window 0 = .ok (.iload_n 1, 1) := by decide +kernel
theorem dX8_window_1 : decode cX8_window 1 = .ok (.iconst 4, 1) := by decide +kernel
theorem dX8_window_2 : decode cX8_window 2 = .ok (.invokestatic 43, 3) := by decide +kernel
theorem dX8_window_5 : decode cX8_window 5 = .ok (.ifCond .eq 20, 3) := by decide +kernel
theorem dX8_window_8 : decode cX8_window 8 = .ok (.aload_n 0, 1) := by decide +kernel
theorem dX8_window_9 : decode cX8_window 9 = .ok (.getfield 10, 3) := by decide +kernel
theorem dX8_window_12 : decode cX8_window 12 = .ok (.getfield 47, 3) := by decide +kernel
theorem dX8_window_15 : decode cX8_window 15 = .ok (.getfield 83, 3) := by decide +kernel
theorem dX8_window_18 : decode cX8_window 18 = .ok (.iload_n 1, 1) := by decide +kernel
theorem dX8_window_19 : decode cX8_window 19 = .ok (.invokevirtual 86, 3) := by decide +kernel
theorem dX8_window_22 : decode cX8_window 22 = .ok (.goto 4, 3) := by decide +kernel
theorem dX8_window_25 : decode cX8_window 25 = .ok (.iconst (-1), 1) := by decide +kernel
theorem dX8_window_26 : decode cX8_window 26 = .ok (.ireturn, 1) := by decide +kernel
theorem dX8_frame_0 : decode cX8_frame 0 = .ok (.iload_n 1, 1) := by decide +kernel
theorem dX8_frame_1 : decode cX8_frame 1 = .ok (.ifCond .lt 11, 3) := by decide +kernel
theorem dX8_frame_4 : decode cX8_frame 4 = .ok (.iload_n 2, 1) := by decide +kernel
theorem dX8_frame_5 : decode cX8_frame 5 = .ok (.iconst 3, 1) := by decide +kernel
theorem dX8_frame_6 : decode cX8_frame 6 = .ok (.invokestatic 43, 3) := by decide +kernel
theorem dX8_frame_9 : decode cX8_frame 9 = .ok (.ifCond .ne 6, 3) := by decide +kernel
theorem dX8_frame_12 : decode cX8_frame 12 = .ok (.bipush (-2), 2) := by decide +kernel
theorem dX8_frame_14 : decode cX8_frame 14 = .ok (.ireturn, 1) := by decide +kernel
theorem dX8_frame_15 : decode cX8_frame 15 = .ok (.iload_n 1, 1) := by decide +kernel
theorem dX8_frame_16 : decode cX8_frame 16 = .ok (.aload_n 0, 1) := by decide +kernel
theorem dX8_frame_17 : decode cX8_frame 17 = .ok (.getfield 10, 3) := by decide +kernel
theorem dX8_frame_20 : decode cX8_frame 20 = .ok (.getfield 179, 3) := by decide +kernel
theorem dX8_frame_23 : decode cX8_frame 23 = .ok (.getfield 194, 3) := by decide +kernel
theorem dX8_frame_26 : decode cX8_frame 26 = .ok (.if_icmp .lt 6, 3) := by decide +kernel
theorem dX8_frame_29 : decode cX8_frame 29 = .ok (.bipush (-5), 2) := by decide +kernel
theorem dX8_frame_31 : decode cX8_frame 31 = .ok (.ireturn, 1) := by decide +kernel
theorem dX8_frame_32 : decode cX8_frame 32 = .ok (.aload_n 0, 1) := by decide +kernel
theorem dX8_frame_33 : decode cX8_frame 33 = .ok (.getfield 10, 3) := by decide +kernel
theorem dX8_frame_36 : decode cX8_frame 36 = .ok (.getfield 179, 3) := by decide +kernel
theorem dX8_frame_39 : decode cX8_frame 39 = .ok (.iload_n 1, 1) := by decide +kernel
theorem dX8_frame_40 : decode cX8_frame 40 = .ok (.iload_n 2, 1) := by decide +kernel
theorem dX8_frame_41 : decode cX8_frame 41 = .ok (.invokevirtual 195, 3) := by decide +kernel
theorem dX8_frame_44 : decode cX8_frame 44 = .ok (.ireturn, 1) := by decide +kernel
theorem dX8_latest_0 : decode cX8_latest 0 = .ok (.iload_n 1, 1) := by decide +kernel
theorem dX8_latest_1 : decode cX8_latest 1 = .ok (.ifCond .lt 11, 3) := by decide +kernel
theorem dX8_latest_4 : decode cX8_latest 4 = .ok (.iload_n 2, 1) := by decide +kernel
theorem dX8_latest_5 : decode cX8_latest 5 = .ok (.iconst 3, 1) := by decide +kernel
theorem dX8_latest_6 : decode cX8_latest 6 = .ok (.invokestatic 43, 3) := by decide +kernel
theorem dX8_latest_9 : decode cX8_latest 9 = .ok (.ifCond .ne 6, 3) := by decide +kernel
theorem dX8_latest_12 : decode cX8_latest 12 = .ok (.bipush (-2), 2) := by decide +kernel
theorem dX8_latest_14 : decode cX8_latest 14 = .ok (.ireturn, 1) := by decide +kernel
theorem dX8_latest_15 : decode cX8_latest 15 = .ok (.iload_n 1, 1) := by decide +kernel
theorem dX8_latest_16 : decode cX8_latest 16 = .ok (.aload_n 0, 1) := by decide +kernel
theorem dX8_latest_17 : decode cX8_latest 17 = .ok (.getfield 10, 3) := by decide +kernel
theorem dX8_latest_20 : decode cX8_latest 20 = .ok (.getfield 113, 3) := by decide +kernel
theorem dX8_latest_23 : decode cX8_latest 23 = .ok (.getfield 117, 3) := by decide +kernel
theorem dX8_latest_26 : decode cX8_latest 26 = .ok (.bipush 12, 2) := by decide +kernel
theorem dX8_latest_28 : decode cX8_latest 28 = .ok (.invokestatic 198, 3) := by decide +kernel
theorem dX8_latest_31 : decode cX8_latest 31 = .ok (.if_icmp .lt 6, 3) := by decide +kernel
theorem dX8_latest_34 : decode cX8_latest 34 = .ok (.bipush (-5), 2) := by decide +kernel
theorem dX8_latest_36 : decode cX8_latest 36 = .ok (.ireturn, 1) := by decide +kernel
theorem dX8_latest_37 : decode cX8_latest 37 = .ok (.aload_n 0, 1) := by decide +kernel
theorem dX8_latest_38 : decode cX8_latest 38 = .ok (.getfield 10, 3) := by decide +kernel
theorem dX8_latest_41 : decode cX8_latest 41 = .ok (.getfield 113, 3) := by decide +kernel
theorem dX8_latest_44 : decode cX8_latest 44 = .ok (.iload_n 1, 1) := by decide +kernel
theorem dX8_latest_45 : decode cX8_latest 45 = .ok (.iload_n 2, 1) := by decide +kernel
theorem dX8_latest_46 : decode cX8_latest 46 = .ok (.invokevirtual 203, 3) := by decide +kernel
theorem dX8_latest_49 : decode cX8_latest 49 = .ok (.ireturn, 1) := by decide +kernel
theorem dX8_next_0 : decode cX8_next 0 = .ok (.iload_n 1, 1) := by decide +kernel
theorem dX8_next_1 : decode cX8_next 1 = .ok (.iconst 3, 1) := by decide +kernel
theorem dX8_next_2 : decode cX8_next 2 = .ok (.invokestatic 43, 3) := by decide +kernel
theorem dX8_next_5 : decode cX8_next 5 = .ok (.ifCond .ne 6, 3) := by decide +kernel
theorem dX8_next_8 : decode cX8_next 8 = .ok (.bipush (-2), 2) := by decide +kernel
theorem dX8_next_10 : decode cX8_next 10 = .ok (.ireturn, 1) := by decide +kernel
theorem dX8_next_11 : decode cX8_next 11 = .ok (.aload_n 0, 1) := by decide +kernel
theorem dX8_next_12 : decode cX8_next 12 = .ok (.getfield 10, 3) := by decide +kernel
theorem dX8_next_15 : decode cX8_next 15 = .ok (.getfield 110, 3) := by decide +kernel
theorem dX8_next_18 : decode cX8_next 18 = .ok (.ifCond .eq 6, 3) := by decide +kernel
theorem dX8_next_21 : decode cX8_next 21 = .ok (.bipush (-5), 2) := by decide +kernel
theorem dX8_next_23 : decode cX8_next 23 = .ok (.ireturn, 1) := by decide +kernel
theorem dX8_next_24 : decode cX8_next 24 = .ok (.iload_n 1, 1) := by decide +kernel
theorem dX8_next_25 : decode cX8_next 25 = .ok (.ifCond .ne 21, 3) := by decide +kernel
theorem dX8_next_28 : decode cX8_next 28 = .ok (.aload_n 0, 1) := by decide +kernel
theorem dX8_next_29 : decode cX8_next 29 = .ok (.getfield 10, 3) := by decide +kernel
theorem dX8_next_32 : decode cX8_next 32 = .ok (.getfield 47, 3) := by decide +kernel
theorem dX8_next_35 : decode cX8_next 35 = .ok (.aload_n 0, 1) := by decide +kernel
theorem dX8_next_36 : decode cX8_next 36 = .ok (.getfield 10, 3) := by decide +kernel
theorem dX8_next_39 : decode cX8_next 39 = .ok (.getfield 100, 3) := by decide +kernel
theorem dX8_next_42 : decode cX8_next 42 = .ok (.invokevirtual 164, 3) := by decide +kernel
theorem dX8_next_45 : decode cX8_next 45 = .ok (.ireturn, 1) := by decide +kernel
theorem dX8_next_46 : decode cX8_next 46 = .ok (.aload_n 0, 1) := by decide +kernel
theorem dX8_next_47 : decode cX8_next 47 = .ok (.getfield 16, 3) := by decide +kernel
theorem dX8_next_50 : decode cX8_next 50 = .ok (.aload_n 0, 1) := by decide +kernel
theorem dX8_next_51 : decode cX8_next 51 = .ok (.getfield 10, 3) := by decide +kernel
theorem dX8_next_54 : decode cX8_next 54 = .ok (.invokevirtual 158, 3) := by decide +kernel
theorem dX8_next_57 : decode cX8_next 57 = .ok (.aload_n 0, 1) := by decide +kernel
theorem dX8_next_58 : decode cX8_next 58 = .ok (.getfield 16, 3) := by decide +kernel
theorem dX8_next_61 : decode cX8_next 61 = .ok (.invokevirtual 204, 3) := by decide +kernel
theorem dX8_next_64 : decode cX8_next 64 = .ok (.iload_n 1, 1) := by decide +kernel
theorem dX8_next_65 : decode cX8_next 65 = .ok (.iconst 1, 1) := by decide +kernel
theorem dX8_next_66 : decode cX8_next 66 = .ok (.if_icmp .ne 13, 3) := by decide +kernel
theorem dX8_next_69 : decode cX8_next 69 = .ok (.aload_n 0, 1) := by decide +kernel
theorem dX8_next_70 : decode cX8_next 70 = .ok (.getfield 16, 3) := by decide +kernel
theorem dX8_next_73 : decode cX8_next 73 = .ok (.getfield 110, 3) := by decide +kernel
theorem dX8_next_76 : decode cX8_next 76 = .ok (.goto 10, 3) := by decide +kernel
theorem dX8_next_79 : decode cX8_next 79 = .ok (.aload_n 0, 1) := by decide +kernel
theorem dX8_next_80 : decode cX8_next 80 = .ok (.getfield 16, 3) := by decide +kernel
theorem dX8_next_83 : decode cX8_next 83 = .ok (.getfield 100, 3) := by decide +kernel
theorem dX8_next_86 : decode cX8_next 86 = .ok (.ireturn, 1) := by decide +kernel
theorem dX8_ifRun_0 : decode cX8_ifRun 0 = .ok (.iload_n 1, 1) := by decide +kernel
theorem dX8_ifRun_1 : decode cX8_ifRun 1 = .ok (.invokestatic 107, 3) := by decide +kernel
theorem dX8_ifRun_4 : decode cX8_ifRun 4 = .ok (.ifCond .eq 11, 3) := by decide +kernel
theorem dX8_ifRun_7 : decode cX8_ifRun 7 = .ok (.iload_n 2, 1) := by decide +kernel
theorem dX8_ifRun_8 : decode cX8_ifRun 8 = .ok (.iconst 5, 1) := by decide +kernel
theorem dX8_ifRun_9 : decode cX8_ifRun 9 = .ok (.invokestatic 43, 3) := by decide +kernel
theorem dX8_ifRun_12 : decode cX8_ifRun 12 = .ok (.ifCond .ne 6, 3) := by decide +kernel
theorem dX8_ifRun_15 : decode cX8_ifRun 15 = .ok (.bipush (-2), 2) := by decide +kernel
theorem dX8_ifRun_17 : decode cX8_ifRun 17 = .ok (.ireturn, 1) := by decide +kernel
theorem dX8_ifRun_18 : decode cX8_ifRun 18 = .ok (.aload_n 0, 1) := by decide +kernel
theorem dX8_ifRun_19 : decode cX8_ifRun 19 = .ok (.getfield 10, 3) := by decide +kernel
theorem dX8_ifRun_22 : decode cX8_ifRun 22 = .ok (.getfield 110, 3) := by decide +kernel
theorem dX8_ifRun_25 : decode cX8_ifRun 25 = .ok (.ifCond .eq 6, 3) := by decide +kernel
theorem dX8_ifRun_28 : decode cX8_ifRun 28 = .ok (.bipush (-4), 2) := by decide +kernel
theorem dX8_ifRun_30 : decode cX8_ifRun 30 = .ok (.ireturn, 1) := by decide +kernel
theorem dX8_ifRun_31 : decode cX8_ifRun 31 = .ok (.aload_n 0, 1) := by decide +kernel
theorem dX8_ifRun_32 : decode cX8_ifRun 32 = .ok (.getfield 16, 3) := by decide +kernel
theorem dX8_ifRun_35 : decode cX8_ifRun 35 = .ok (.aload_n 0, 1) := by decide +kernel
theorem dX8_ifRun_36 : decode cX8_ifRun 36 = .ok (.getfield 10, 3) := by decide +kernel
theorem dX8_ifRun_39 : decode cX8_ifRun 39 = .ok (.invokevirtual 158, 3) := by decide +kernel
theorem dX8_ifRun_42 : decode cX8_ifRun 42 = .ok (.aload_n 0, 1) := by decide +kernel
theorem dX8_ifRun_43 : decode cX8_ifRun 43 = .ok (.getfield 16, 3) := by decide +kernel
theorem dX8_ifRun_46 : decode cX8_ifRun 46 = .ok (.iload_n 1, 1) := by decide +kernel
theorem dX8_ifRun_47 : decode cX8_ifRun 47 = .ok (.invokevirtual 123, 3) := by decide +kernel
theorem dX8_ifRun_50 : decode cX8_ifRun 50 = .ok (.istore_n 3, 1) := by decide +kernel
theorem dX8_ifRun_51 : decode cX8_ifRun 51 = .ok (.iload_n 2, 1) := by decide +kernel
theorem dX8_ifRun_52 : decode cX8_ifRun 52 = .ok (.tableswitch 61 0 3 #[32, 34, 42, 50], 32) := by decide +kernel
theorem dX8_ifRun_84 : decode cX8_ifRun 84 = .ok (.iload_n 3, 1) := by decide +kernel
theorem dX8_ifRun_85 : decode cX8_ifRun 85 = .ok (.ireturn, 1) := by decide +kernel
theorem dX8_ifRun_86 : decode cX8_ifRun 86 = .ok (.aload_n 0, 1) := by decide +kernel
theorem dX8_ifRun_87 : decode cX8_ifRun 87 = .ok (.getfield 16, 3) := by decide +kernel
theorem dX8_ifRun_90 : decode cX8_ifRun 90 = .ok (.getfield 110, 3) := by decide +kernel
theorem dX8_ifRun_93 : decode cX8_ifRun 93 = .ok (.ireturn, 1) := by decide +kernel
theorem dX8_ifRun_94 : decode cX8_ifRun 94 = .ok (.aload_n 0, 1) := by decide +kernel
theorem dX8_ifRun_95 : decode cX8_ifRun 95 = .ok (.getfield 16, 3) := by decide +kernel
theorem dX8_ifRun_98 : decode cX8_ifRun 98 = .ok (.getfield 207, 3) := by decide +kernel
theorem dX8_ifRun_101 : decode cX8_ifRun 101 = .ok (.ireturn, 1) := by decide +kernel
theorem dX8_ifRun_102 : decode cX8_ifRun 102 = .ok (.aload_n 0, 1) := by decide +kernel
theorem dX8_ifRun_103 : decode cX8_ifRun 103 = .ok (.getfield 16, 3) := by decide +kernel
theorem dX8_ifRun_106 : decode cX8_ifRun 106 = .ok (.getfield 179, 3) := by decide +kernel
theorem dX8_ifRun_109 : decode cX8_ifRun 109 = .ok (.getfield 194, 3) := by decide +kernel
theorem dX8_ifRun_112 : decode cX8_ifRun 112 = .ok (.ireturn, 1) := by decide +kernel
theorem dX8_ifRun_113 : decode cX8_ifRun 113 = .ok (.aload_n 0, 1) := by decide +kernel
theorem dX8_ifRun_114 : decode cX8_ifRun 114 = .ok (.getfield 16, 3) := by decide +kernel
theorem dX8_ifRun_117 : decode cX8_ifRun 117 = .ok (.getfield 47, 3) := by decide +kernel
theorem dX8_ifRun_120 : decode cX8_ifRun 120 = .ok (.getfield 210, 3) := by decide +kernel
theorem dX8_ifRun_123 : decode cX8_ifRun 123 = .ok (.aload_n 0, 1) := by decide +kernel
theorem dX8_ifRun_124 : decode cX8_ifRun 124 = .ok (.getfield 10, 3) := by decide +kernel
theorem dX8_ifRun_127 : decode cX8_ifRun 127 = .ok (.getfield 47, 3) := by decide +kernel
theorem dX8_ifRun_130 : decode cX8_ifRun 130 = .ok (.getfield 210, 3) := by decide +kernel
theorem dX8_ifRun_133 : decode cX8_ifRun 133 = .ok (.invokevirtual 213, 3) := by decide +kernel
theorem dX8_ifRun_136 : decode cX8_ifRun 136 = .ok (.ireturn, 1) := by decide +kernel
theorem dX8_backIn_0 : decode cX8_backIn 0 = .ok (.aload_n 0, 1) := by decide +kernel
theorem dX8_backIn_1 : decode cX8_backIn 1 = .ok (.getfield 10, 3) := by decide +kernel
theorem dX8_backIn_4 : decode cX8_backIn 4 = .ok (.getfield 179, 3) := by decide +kernel
theorem dX8_backIn_7 : decode cX8_backIn 7 = .ok (.getfield 194, 3) := by decide +kernel
theorem dX8_backIn_10 : decode cX8_backIn 10 = .ok (.istore_n 1, 1) := by decide +kernel
theorem dX8_backIn_11 : decode cX8_backIn 11 = .ok (.iload_n 1, 1) := by decide +kernel
theorem dX8_backIn_12 : decode cX8_backIn 12 = .ok (.ifCond .ne 6, 3) := by decide +kernel
theorem dX8_backIn_15 : decode cX8_backIn 15 = .ok (.bipush (-5), 2) := by decide +kernel
theorem dX8_backIn_17 : decode cX8_backIn 17 = .ok (.ireturn, 1) := by decide +kernel
theorem dX8_backIn_18 : decode cX8_backIn 18 = .ok (.aload_n 0, 1) := by decide +kernel
theorem dX8_backIn_19 : decode cX8_backIn 19 = .ok (.getfield 16, 3) := by decide +kernel
theorem dX8_backIn_22 : decode cX8_backIn 22 = .ok (.aload_n 0, 1) := by decide +kernel
theorem dX8_backIn_23 : decode cX8_backIn 23 = .ok (.getfield 10, 3) := by decide +kernel
theorem dX8_backIn_26 : decode cX8_backIn 26 = .ok (.invokevirtual 158, 3) := by decide +kernel
theorem dX8_backIn_29 : decode cX8_backIn 29 = .ok (.iconst 1, 1) := by decide +kernel
theorem dX8_backIn_30 : decode cX8_backIn 30 = .ok (.istore_n 2, 1) := by decide +kernel
theorem dX8_backIn_31 : decode cX8_backIn 31 = .ok (.iload_n 2, 1) := by decide +kernel
theorem dX8_backIn_32 : decode cX8_backIn 32 = .ok (.sipush 500, 3) := by decide +kernel
theorem dX8_backIn_35 : decode cX8_backIn 35 = .ok (.if_icmp .gt 42, 3) := by decide +kernel
theorem dX8_backIn_38 : decode cX8_backIn 38 = .ok (.aload_n 0, 1) := by decide +kernel
theorem dX8_backIn_39 : decode cX8_backIn 39 = .ok (.getfield 16, 3) := by decide +kernel
theorem dX8_backIn_42 : decode cX8_backIn 42 = .ok (.getfield 110, 3) := by decide +kernel
theorem dX8_backIn_45 : decode cX8_backIn 45 = .ok (.ifCond .ne 32, 3) := by decide +kernel
theorem dX8_backIn_48 : decode cX8_backIn 48 = .ok (.aload_n 0, 1) := by decide +kernel
theorem dX8_backIn_49 : decode cX8_backIn 49 = .ok (.getfield 16, 3) := by decide +kernel
theorem dX8_backIn_52 : decode cX8_backIn 52 = .ok (.invokevirtual 204, 3) := by decide +kernel
theorem dX8_backIn_55 : decode cX8_backIn 55 = .ok (.aload_n 0, 1) := by decide +kernel
theorem dX8_backIn_56 : decode cX8_backIn 56 = .ok (.getfield 16, 3) := by decide +kernel
theorem dX8_backIn_59 : decode cX8_backIn 59 = .ok (.getfield 179, 3) := by decide +kernel
theorem dX8_backIn_62 : decode cX8_backIn 62 = .ok (.getfield 194, 3) := by decide +kernel
theorem dX8_backIn_65 : decode cX8_backIn 65 = .ok (.iload_n 1, 1) := by decide +kernel
theorem dX8_backIn_66 : decode cX8_backIn 66 = .ok (.if_icmp .ge 5, 3) := by decide +kernel
theorem dX8_backIn_69 : decode cX8_backIn 69 = .ok (.iload_n 2, 1) := by decide +kernel
theorem dX8_backIn_70 : decode cX8_backIn 70 = .ok (.ireturn, 1) := by decide +kernel

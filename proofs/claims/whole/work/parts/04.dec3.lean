theorem dX9_putBack_6 : decode cX9_putBack 6 = .ok (.if_icmp .ge 21, 3) := by decide +kernel
theorem dX9_putBack_9 : decode cX9_putBack 9 = .ok (.aload_n 0, 1) := by decide +kernel
theorem dX9_putBack_10 : decode cX9_putBack 10 = .ok (.getfield 7, 3) := by decide +kernel
theorem dX9_putBack_13 : decode cX9_putBack 13 = .ok (.iload_n 1, 1) := by decide +kernel
theorem dX9_putBack_14 : decode cX9_putBack 14 = .ok (.aload_n 0, 1) := by decide +kernel
theorem dX9_putBack_15 : decode cX9_putBack 15 = .ok (.getfield 13, 3) := by decide +kernel
theorem dX9_putBack_18 : decode cX9_putBack 18 = .ok (.iload_n 1, 1) := by decide +kernel
theorem dX9_putBack_19 : decode cX9_putBack 19 = .ok (.iaload, 1) := by decide +kernel
theorem dX9_putBack_20 : decode cX9_putBack 20 = .ok (.iastore, 1) := by decide +kernel
theorem dX9_putBack_21 : decode cX9_putBack 21 = .ok (.iinc 1 1, 3) := by decide +kernel
theorem dX9_putBack_24 : decode cX9_putBack 24 = .ok (.goto (-22), 3) := by decide +kernel
theorem dX9_putBack_27 : decode cX9_putBack 27 = .ok (.return_, 1) := by decide +kernel
theorem dX9_change_0 : decode cX9_change 0 = .ok (.aload_n 0, 1) := by decide +kernel
theorem dX9_change_1 : decode cX9_change 1 = .ok (.getfield 7, 3) := by decide +kernel
theorem dX9_change_4 : decode cX9_change 4 = .ok (.iload_n 1, 1) := by decide +kernel
theorem dX9_change_5 : decode cX9_change 5 = .ok (.iaload, 1) := by decide +kernel
theorem dX9_change_6 : decode cX9_change 6 = .ok (.iload_n 2, 1) := by decide +kernel
theorem dX9_change_7 : decode cX9_change 7 = .ok (.if_icmp .ne 6, 3) := by decide +kernel
theorem dX9_change_10 : decode cX9_change 10 = .ok (.bipush (-5), 2) := by decide +kernel
theorem dX9_change_12 : decode cX9_change 12 = .ok (.ireturn, 1) := by decide +kernel
theorem dX9_change_13 : decode cX9_change 13 = .ok (.aload_n 0, 1) := by decide +kernel
theorem dX9_change_14 : decode cX9_change 14 = .ok (.invokevirtual 48, 3) := by decide +kernel
theorem dX9_change_17 : decode cX9_change 17 = .ok (.aload_n 0, 1) := by decide +kernel
theorem dX9_change_18 : decode cX9_change 18 = .ok (.getfield 7, 3) := by decide +kernel
theorem dX9_change_21 : decode cX9_change 21 = .ok (.iload_n 1, 1) := by decide +kernel
theorem dX9_change_22 : decode cX9_change 22 = .ok (.iaload, 1) := by decide +kernel
theorem dX9_change_23 : decode cX9_change 23 = .ok (.istore_n 3, 1) := by decide +kernel
theorem dX9_change_24 : decode cX9_change 24 = .ok (.aload_n 0, 1) := by decide +kernel
theorem dX9_change_25 : decode cX9_change 25 = .ok (.getfield 7, 3) := by decide +kernel
theorem dX9_change_28 : decode cX9_change 28 = .ok (.iload_n 1, 1) := by decide +kernel
theorem dX9_change_29 : decode cX9_change 29 = .ok (.iload_n 2, 1) := by decide +kernel
theorem dX9_change_30 : decode cX9_change 30 = .ok (.iastore, 1) := by decide +kernel
theorem dX9_change_31 : decode cX9_change 31 = .ok (.iload_n 3, 1) := by decide +kernel
theorem dX9_change_32 : decode cX9_change 32 = .ok (.ireturn, 1) := by decide +kernel
theorem dX9_put_0 : decode cX9_put 0 = .ok (.iload_n 1, 1) := by decide +kernel
theorem dX9_put_1 : decode cX9_put 1 = .ok (.invokestatic 51, 3) := by decide +kernel
theorem dX9_put_4 : decode cX9_put 4 = .ok (.ifCond .eq 10, 3) := by decide +kernel
theorem dX9_put_7 : decode cX9_put 7 = .ok (.iload_n 2, 1) := by decide +kernel
theorem dX9_put_8 : decode cX9_put 8 = .ok (.invokestatic 55, 3) := by decide +kernel
theorem dX9_put_11 : decode cX9_put 11 = .ok (.ifCond .ne 5, 3) := by decide +kernel
theorem dX9_put_14 : decode cX9_put 14 = .ok (.iconst (-1), 1) := by decide +kernel
theorem dX9_put_15 : decode cX9_put 15 = .ok (.ireturn, 1) := by decide +kernel
theorem dX9_put_16 : decode cX9_put 16 = .ok (.iload_n 3, 1) := by decide +kernel
theorem dX9_put_17 : decode cX9_put 17 = .ok (.iconst 0, 1) := by decide +kernel
theorem dX9_put_18 : decode cX9_put 18 = .ok (.sipush 999, 3) := by decide +kernel
theorem dX9_put_21 : decode cX9_put 21 = .ok (.invokestatic 28, 3) := by decide +kernel
theorem dX9_put_24 : decode cX9_put 24 = .ok (.ifCond .eq 16, 3) := by decide +kernel
theorem dX9_put_27 : decode cX9_put 27 = .ok (.aload_n 0, 1) := by decide +kernel
theorem dX9_put_28 : decode cX9_put 28 = .ok (.iload_n 1, 1) := by decide +kernel
theorem dX9_put_29 : decode cX9_put 29 = .ok (.iload_n 2, 1) := by decide +kernel
theorem dX9_put_30 : decode cX9_put 30 = .ok (.invokestatic 36, 3) := by decide +kernel
theorem dX9_put_33 : decode cX9_put 33 = .ok (.iload_n 3, 1) := by decide +kernel
theorem dX9_put_34 : decode cX9_put 34 = .ok (.invokevirtual 58, 3) := by decide +kernel
theorem dX9_put_37 : decode cX9_put 37 = .ok (.goto 5, 3) := by decide +kernel
theorem dX9_put_40 : decode cX9_put 40 = .ok (.bipush (-2), 2) := by decide +kernel
theorem dX9_put_42 : decode cX9_put 42 = .ok (.ireturn, 1) := by decide +kernel
theorem dX9_locked_0 : decode cX9_locked 0 = .ok (.iconst 0, 1) := by decide +kernel
theorem dX9_locked_1 : decode cX9_locked 1 = .ok (.istore_n 1, 1) := by decide +kernel
theorem dX9_locked_2 : decode cX9_locked 2 = .ok (.iconst 0, 1) := by decide +kernel
theorem dX9_locked_3 : decode cX9_locked 3 = .ok (.istore_n 2, 1) := by decide +kernel
theorem dX9_locked_4 : decode cX9_locked 4 = .ok (.iload_n 2, 1) := by decide +kernel
theorem dX9_locked_5 : decode cX9_locked 5 = .ok (.bipush 8, 2) := by decide +kernel
theorem dX9_locked_7 : decode cX9_locked 7 = .ok (.if_icmp .ge 21, 3) := by decide +kernel
theorem dX9_locked_10 : decode cX9_locked 10 = .ok (.iload_n 1, 1) := by decide +kernel
theorem dX9_locked_11 : decode cX9_locked 11 = .ok (.aload_n 0, 1) := by decide +kernel
theorem dX9_locked_12 : decode cX9_locked 12 = .ok (.getfield 7, 3) := by decide +kernel
theorem dX9_locked_15 : decode cX9_locked 15 = .ok (.bipush 104, 2) := by decide +kernel
theorem dX9_locked_17 : decode cX9_locked 17 = .ok (.iload_n 2, 1) := by decide +kernel
theorem dX9_locked_18 : decode cX9_locked 18 = .ok (.iadd, 1) := by decide +kernel
theorem dX9_locked_19 : decode cX9_locked 19 = .ok (.iaload, 1) := by decide +kernel
theorem dX9_locked_20 : decode cX9_locked 20 = .ok (.iadd, 1) := by decide +kernel
theorem dX9_locked_21 : decode cX9_locked 21 = .ok (.istore_n 1, 1) := by decide +kernel
theorem dX9_locked_22 : decode cX9_locked 22 = .ok (.iinc 2 1, 3) := by decide +kernel
theorem dX9_locked_25 : decode cX9_locked 25 = .ok (.goto (-21), 3) := by decide +kernel
theorem dX9_locked_28 : decode cX9_locked 28 = .ok (.iload_n 1, 1) := by decide +kernel
theorem dX9_locked_29 : decode cX9_locked 29 = .ok (.ireturn, 1) := by decide +kernel
theorem dX9_lock_0 : decode cX9_lock 0 = .ok (.iload_n 1, 1) := by decide +kernel
theorem dX9_lock_1 : decode cX9_lock 1 = .ok (.invokestatic 51, 3) := by decide +kernel
theorem dX9_lock_4 : decode cX9_lock 4 = .ok (.ifCond .ne 5, 3) := by decide +kernel
theorem dX9_lock_7 : decode cX9_lock 7 = .ok (.iconst (-1), 1) := by decide +kernel
theorem dX9_lock_8 : decode cX9_lock 8 = .ok (.ireturn, 1) := by decide +kernel
theorem dX9_lock_9 : decode cX9_lock 9 = .ok (.aload_n 0, 1) := by decide +kernel
theorem dX9_lock_10 : decode cX9_lock 10 = .ok (.bipush 104, 2) := by decide +kernel
theorem dX9_lock_12 : decode cX9_lock 12 = .ok (.iload_n 1, 1) := by decide +kernel
theorem dX9_lock_13 : decode cX9_lock 13 = .ok (.iadd, 1) := by decide +kernel
theorem dX9_lock_14 : decode cX9_lock 14 = .ok (.iload_n 2, 1) := by decide +kernel
theorem dX9_lock_15 : decode cX9_lock 15 = .ok (.ifCond .eq 7, 3) := by decide +kernel
theorem dX9_lock_18 : decode cX9_lock 18 = .ok (.iconst 1, 1) := by decide +kernel
theorem dX9_lock_19 : decode cX9_lock 19 = .ok (.goto 4, 3) := by decide +kernel
theorem dX9_lock_22 : decode cX9_lock 22 = .ok (.iconst 0, 1) := by decide +kernel
theorem dX9_lock_23 : decode cX9_lock 23 = .ok (.invokevirtual 58, 3) := by decide +kernel
theorem dX9_lock_26 : decode cX9_lock 26 = .ok (.bipush (-5), 2) := by decide +kernel
theorem dX9_lock_28 : decode cX9_lock 28 = .ok (.if_icmp .ne 8, 3) := by decide +kernel
theorem dX9_lock_31 : decode cX9_lock 31 = .ok (.bipush (-5), 2) := by decide +kernel
theorem dX9_lock_33 : decode cX9_lock 33 = .ok (.goto 7, 3) := by decide +kernel
theorem dX9_lock_36 : decode cX9_lock 36 = .ok (.aload_n 0, 1) := by decide +kernel
theorem dX9_lock_37 : decode cX9_lock 37 = .ok (.invokevirtual 61, 3) := by decide +kernel
theorem dX9_lock_40 : decode cX9_lock 40 = .ok (.ireturn, 1) := by decide +kernel
theorem dX9_show_0 : decode cX9_show 0 = .ok (.iload_n 1, 1) := by decide +kernel
theorem dX9_show_1 : decode cX9_show 1 = .ok (.invokestatic 65, 3) := by decide +kernel
theorem dX9_show_4 : decode cX9_show 4 = .ok (.ifCond .eq 22, 3) := by decide +kernel
theorem dX9_show_7 : decode cX9_show 7 = .ok (.iload_n 2, 1) := by decide +kernel
theorem dX9_show_8 : decode cX9_show 8 = .ok (.invokestatic 51, 3) := by decide +kernel
theorem dX9_show_11 : decode cX9_show 11 = .ok (.ifCond .eq 15, 3) := by decide +kernel
theorem dX9_show_14 : decode cX9_show 14 = .ok (.aload_n 0, 1) := by decide +kernel
theorem dX9_show_15 : decode cX9_show 15 = .ok (.bipush 100, 2) := by decide +kernel
theorem dX9_show_17 : decode cX9_show 17 = .ok (.iload_n 1, 1) := by decide +kernel
theorem dX9_show_18 : decode cX9_show 18 = .ok (.iadd, 1) := by decide +kernel
theorem dX9_show_19 : decode cX9_show 19 = .ok (.iload_n 2, 1) := by decide +kernel
theorem dX9_show_20 : decode cX9_show 20 = .ok (.invokevirtual 58, 3) := by decide +kernel
theorem dX9_show_23 : decode cX9_show 23 = .ok (.goto 4, 3) := by decide +kernel
theorem dX9_show_26 : decode cX9_show 26 = .ok (.iconst (-1), 1) := by decide +kernel
theorem dX9_show_27 : decode cX9_show 27 = .ok (.ireturn, 1) := by decide +kernel
theorem dX9_copyBank_0 : decode cX9_copyBank 0 = .ok (.iload_n 1, 1) := by decide +kernel
theorem dX9_copyBank_1 : decode cX9_copyBank 1 = .ok (.invokestatic 51, 3) := by decide +kernel
theorem dX9_copyBank_4 : decode cX9_copyBank 4 = .ok (.ifCond .eq 10, 3) := by decide +kernel
theorem dX9_copyBank_7 : decode cX9_copyBank 7 = .ok (.iload_n 2, 1) := by decide +kernel
theorem dX9_copyBank_8 : decode cX9_copyBank 8 = .ok (.invokestatic 51, 3) := by decide +kernel
theorem dX9_copyBank_11 : decode cX9_copyBank 11 = .ok (.ifCond .ne 5, 3) := by decide +kernel
theorem dX9_copyBank_14 : decode cX9_copyBank 14 = .ok (.iconst (-1), 1) := by decide +kernel
theorem dX9_copyBank_15 : decode cX9_copyBank 15 = .ok (.ireturn, 1) := by decide +kernel
theorem dX9_copyBank_16 : decode cX9_copyBank 16 = .ok (.iconst 0, 1) := by decide +kernel
theorem dX9_copyBank_17 : decode cX9_copyBank 17 = .ok (.istore_n 3, 1) := by decide +kernel
theorem dX9_copyBank_18 : decode cX9_copyBank 18 = .ok (.iconst 0, 1) := by decide +kernel
theorem dX9_copyBank_19 : decode cX9_copyBank 19 = .ok (.istore 4, 2) := by decide +kernel
theorem dX9_copyBank_21 : decode cX9_copyBank 21 = .ok (.iload 4, 2) := by decide +kernel
theorem dX9_copyBank_23 : decode cX9_copyBank 23 = .ok (.bipush 12, 2) := by decide +kernel
theorem dX9_copyBank_25 : decode cX9_copyBank 25 = .ok (.if_icmp .ge 42, 3) := by decide +kernel
theorem dX9_copyBank_28 : decode cX9_copyBank 28 = .ok (.iload_n 3, 1) := by decide +kernel
theorem dX9_copyBank_29 : decode cX9_copyBank 29 = .ok (.aload_n 0, 1) := by decide +kernel
theorem dX9_copyBank_30 : decode cX9_copyBank 30 = .ok (.getfield 7, 3) := by decide +kernel
theorem dX9_copyBank_33 : decode cX9_copyBank 33 = .ok (.iload_n 1, 1) := by decide +kernel
theorem dX9_copyBank_34 : decode cX9_copyBank 34 = .ok (.iload 4, 2) := by decide +kernel
theorem dX9_copyBank_36 : decode cX9_copyBank 36 = .ok (.invokestatic 36, 3) := by decide +kernel
theorem dX9_copyBank_39 : decode cX9_copyBank 39 = .ok (.iaload, 1) := by decide +kernel
theorem dX9_copyBank_40 : decode cX9_copyBank 40 = .ok (.aload_n 0, 1) := by decide +kernel
theorem dX9_copyBank_41 : decode cX9_copyBank 41 = .ok (.getfield 7, 3) := by decide +kernel
theorem dX9_copyBank_44 : decode cX9_copyBank 44 = .ok (.iload_n 2, 1) := by decide +kernel
theorem dX9_copyBank_45 : decode cX9_copyBank 45 = .ok (.iload 4, 2) := by decide +kernel
theorem dX9_copyBank_47 : decode cX9_copyBank 47 = .ok (.invokestatic 36, 3) := by decide +kernel
theorem dX9_copyBank_50 : decode cX9_copyBank 50 = .ok (.iaload, 1) := by decide +kernel
theorem dX9_copyBank_51 : decode cX9_copyBank 51 = .ok (.if_icmp .eq 7, 3) := by decide +kernel
theorem dX9_copyBank_54 : decode cX9_copyBank 54 = .ok (.iconst 1, 1) := by decide +kernel
theorem dX9_copyBank_55 : decode cX9_copyBank 55 = .ok (.goto 4, 3) := by decide +kernel
theorem dX9_copyBank_58 : decode cX9_copyBank 58 = .ok (.iconst 0, 1) := by decide +kernel
theorem dX9_copyBank_59 : decode cX9_copyBank 59 = .ok (.iadd, 1) := by decide +kernel
theorem dX9_copyBank_60 : decode cX9_copyBank 60 = .ok (.istore_n 3, 1) := by decide +kernel
theorem dX9_copyBank_61 : decode cX9_copyBank 61 = .ok (.iinc 4 1, 3) := by decide +kernel
theorem dX9_copyBank_64 : decode cX9_copyBank 64 = .ok (.goto (-43), 3) := by decide +kernel
theorem dX9_copyBank_67 : decode cX9_copyBank 67 = .ok (.iload_n 3, 1) := by decide +kernel
theorem dX9_copyBank_68 : decode cX9_copyBank 68 = .ok (.ifCond .ne 6, 3) := by decide +kernel
theorem dX9_copyBank_71 : decode cX9_copyBank 71 = .ok (.bipush (-5), 2) := by decide +kernel
theorem dX9_copyBank_73 : decode cX9_copyBank 73 = .ok (.ireturn, 1) := by decide +kernel
theorem dX9_copyBank_74 : decode cX9_copyBank 74 = .ok (.aload_n 0, 1) := by decide +kernel
theorem dX9_copyBank_75 : decode cX9_copyBank 75 = .ok (.invokevirtual 48, 3) := by decide +kernel
theorem dX9_copyBank_78 : decode cX9_copyBank 78 = .ok (.iconst 0, 1) := by decide +kernel
theorem dX9_copyBank_79 : decode cX9_copyBank 79 = .ok (.istore 4, 2) := by decide +kernel
theorem dX9_copyBank_81 : decode cX9_copyBank 81 = .ok (.iload 4, 2) := by decide +kernel
theorem dX9_copyBank_83 : decode cX9_copyBank 83 = .ok (.bipush 12, 2) := by decide +kernel
theorem dX9_copyBank_85 : decode cX9_copyBank 85 = .ok (.if_icmp .ge 31, 3) := by decide +kernel
theorem dX9_copyBank_88 : decode cX9_copyBank 88 = .ok (.aload_n 0, 1) := by decide +kernel
theorem dX9_copyBank_89 : decode cX9_copyBank 89 = .ok (.getfield 7, 3) := by decide +kernel
theorem dX9_copyBank_92 : decode cX9_copyBank 92 = .ok (.iload_n 2, 1) := by decide +kernel
theorem dX9_copyBank_93 : decode cX9_copyBank 93 = .ok (.iload 4, 2) := by decide +kernel
theorem dX9_copyBank_95 : decode cX9_copyBank 95 = .ok (.invokestatic 36, 3) := by decide +kernel
theorem dX9_copyBank_98 : decode cX9_copyBank 98 = .ok (.aload_n 0, 1) := by decide +kernel
theorem dX9_copyBank_99 : decode cX9_copyBank 99 = .ok (.getfield 7, 3) := by decide +kernel
theorem dX9_copyBank_102 : decode cX9_copyBank 102 = .ok (.iload_n 1, 1) := by decide +kernel
theorem dX9_copyBank_103 : decode cX9_copyBank 103 = .ok (.iload 4, 2) := by decide +kernel
theorem dX9_copyBank_105 : decode cX9_copyBank 105 = .ok (.invokestatic 36, 3) := by decide +kernel
theorem dX9_copyBank_108 : decode cX9_copyBank 108 = .ok (.iaload, 1) := by decide +kernel
theorem dX9_copyBank_109 : decode cX9_copyBank 109 = .ok (.iastore, 1) := by decide +kernel
theorem dX9_copyBank_110 : decode cX9_copyBank 110 = .ok (.iinc 4 1, 3) := by decide +kernel
theorem dX9_copyBank_113 : decode cX9_copyBank 113 = .ok (.goto (-32), 3) := by decide +kernel
theorem dX9_copyBank_116 : decode cX9_copyBank 116 = .ok (.iload_n 3, 1) := by decide +kernel
theorem dX9_copyBank_117 : decode cX9_copyBank 117 = .ok (.ireturn, 1) := by decide +kernel
theorem dX9_set_0 : decode cX9_set 0 = .ok (.iload_n 1, 1) := by decide +kernel
theorem dX9_set_1 : decode cX9_set 1 = .ok (.iconst 0, 1) := by decide +kernel
theorem dX9_set_2 : decode cX9_set 2 = .ok (.iconst 1, 1) := by decide +kernel
theorem dX9_set_3 : decode cX9_set 3 = .ok (.invokestatic 28, 3) := by decide +kernel
theorem dX9_set_6 : decode cX9_set 6 = .ok (.ifCond .eq 13, 3) := by decide +kernel
theorem dX9_set_9 : decode cX9_set 9 = .ok (.aload_n 0, 1) := by decide +kernel
theorem dX9_set_10 : decode cX9_set 10 = .ok (.bipush 112, 2) := by decide +kernel
theorem dX9_set_12 : decode cX9_set 12 = .ok (.iload_n 1, 1) := by decide +kernel
theorem dX9_set_13 : decode cX9_set 13 = .ok (.invokevirtual 58, 3) := by decide +kernel
theorem dX9_set_16 : decode cX9_set 16 = .ok (.goto 5, 3) := by decide +kernel
theorem dX9_set_19 : decode cX9_set 19 = .ok (.bipush (-2), 2) := by decide +kernel
theorem dX9_set_21 : decode cX9_set 21 = .ok (.ireturn, 1) := by decide +kernel
theorem dX9_begin_0 : decode cX9_begin 0 = .ok (.iload_n 1, 1) := by decide +kernel
theorem dX9_begin_1 : decode cX9_begin 1 = .ok (.invokestatic 68, 3) := by decide +kernel
theorem dX9_begin_4 : decode cX9_begin 4 = .ok (.ifCond .ne 5, 3) := by decide +kernel
theorem dX9_begin_7 : decode cX9_begin 7 = .ok (.iconst (-1), 1) := by decide +kernel
theorem dX9_begin_8 : decode cX9_begin 8 = .ok (.ireturn, 1) := by decide +kernel
theorem dX9_begin_9 : decode cX9_begin 9 = .ok (.aload_n 0, 1) := by decide +kernel
theorem dX9_begin_10 : decode cX9_begin 10 = .ok (.invokevirtual 48, 3) := by decide +kernel
theorem dX9_begin_13 : decode cX9_begin 13 = .ok (.aload_n 0, 1) := by decide +kernel
theorem dX9_begin_14 : decode cX9_begin 14 = .ok (.getfield 7, 3) := by decide +kernel
theorem dX9_begin_17 : decode cX9_begin 17 = .ok (.bipush 114, 2) := by decide +kernel
theorem dX9_begin_19 : decode cX9_begin 19 = .ok (.iaload, 1) := by decide +kernel
theorem dX9_begin_20 : decode cX9_begin 20 = .ok (.istore_n 2, 1) := by decide +kernel
theorem dX9_begin_21 : decode cX9_begin 21 = .ok (.aload_n 0, 1) := by decide +kernel
theorem dX9_begin_22 : decode cX9_begin 22 = .ok (.getfield 7, 3) := by decide +kernel
theorem dX9_begin_25 : decode cX9_begin 25 = .ok (.bipush 114, 2) := by decide +kernel
theorem dX9_begin_27 : decode cX9_begin 27 = .ok (.iload_n 1, 1) := by decide +kernel
theorem dX9_begin_28 : decode cX9_begin 28 = .ok (.iastore, 1) := by decide +kernel
theorem dX9_begin_29 : decode cX9_begin 29 = .ok (.aload_n 0, 1) := by decide +kernel
theorem dX9_begin_30 : decode cX9_begin 30 = .ok (.getfield 7, 3) := by decide +kernel
theorem dX9_begin_33 : decode cX9_begin 33 = .ok (.bipush 113, 2) := by decide +kernel
theorem dX9_begin_35 : decode cX9_begin 35 = .ok (.iconst 0, 1) := by decide +kernel
theorem dX9_begin_36 : decode cX9_begin 36 = .ok (.iastore, 1) := by decide +kernel
theorem dX9_begin_37 : decode cX9_begin 37 = .ok (.aload_n 0, 1) := by decide +kernel
theorem dX9_begin_38 : decode cX9_begin 38 = .ok (.getfield 7, 3) := by decide +kernel
theorem dX9_begin_41 : decode cX9_begin 41 = .ok (.bipush 115, 2) := by decide +kernel
theorem dX9_begin_43 : decode cX9_begin 43 = .ok (.iconst 0, 1) := by decide +kernel
theorem dX9_begin_44 : decode cX9_begin 44 = .ok (.iastore, 1) := by decide +kernel
theorem dX9_begin_45 : decode cX9_begin 45 = .ok (.aload_n 0, 1) := by decide +kernel
theorem dX9_begin_46 : decode cX9_begin 46 = .ok (.getfield 7, 3) := by decide +kernel
theorem dX9_begin_49 : decode cX9_begin 49 = .ok (.bipush 116, 2) := by decide +kernel
theorem dX9_begin_51 : decode cX9_begin 51 = .ok (.iconst 0, 1) := by decide +kernel
theorem dX9_begin_52 : decode cX9_begin 52 = .ok (.iastore, 1) := by decide +kernel
theorem dX9_begin_53 : decode cX9_begin 53 = .ok (.iload_n 2, 1) := by decide +kernel
theorem dX9_begin_54 : decode cX9_begin 54 = .ok (.ireturn, 1) := by decide +kernel
theorem dX9_sum_0 : decode cX9_sum 0 = .ok (.iload_n 0, 1) := by decide +kernel
theorem dX9_sum_1 : decode cX9_sum 1 = .ok (.iload_n 1, 1) := by decide +kernel
theorem dX9_sum_2 : decode cX9_sum 2 = .ok (.iadd, 1) := by decide +kernel
theorem dX9_sum_3 : decode cX9_sum 3 = .ok (.sipush 999, 3) := by decide +kernel
theorem dX9_sum_6 : decode cX9_sum 6 = .ok (.if_icmp .le 13, 3) := by decide +kernel
theorem dX9_sum_9 : decode cX9_sum 9 = .ok (.iload_n 0, 1) := by decide +kernel
theorem dX9_sum_10 : decode cX9_sum 10 = .ok (.iload_n 1, 1) := by decide +kernel
theorem dX9_sum_11 : decode cX9_sum 11 = .ok (.iadd, 1) := by decide +kernel
theorem dX9_sum_12 : decode cX9_sum 12 = .ok (.sipush 1000, 3) := by decide +kernel
theorem dX9_sum_15 : decode cX9_sum 15 = .ok (.isub, 1) := by decide +kernel
theorem dX9_sum_16 : decode cX9_sum 16 = .ok (.goto 6, 3) := by decide +kernel
theorem dX9_sum_19 : decode cX9_sum 19 = .ok (.iload_n 0, 1) := by decide +kernel
theorem dX9_sum_20 : decode cX9_sum 20 = .ok (.iload_n 1, 1) := by decide +kernel
theorem dX9_sum_21 : decode cX9_sum 21 = .ok (.iadd, 1) := by decide +kernel
theorem dX9_sum_22 : decode cX9_sum 22 = .ok (.ireturn, 1) := by decide +kernel
theorem dX9_whyNot_0 : decode cX9_whyNot 0 = .ok (.iload_n 1, 1) := by decide +kernel
theorem dX9_whyNot_1 : decode cX9_whyNot 1 = .ok (.iconst 2, 1) := by decide +kernel
theorem dX9_whyNot_2 : decode cX9_whyNot 2 = .ok (.iconst 5, 1) := by decide +kernel
theorem dX9_whyNot_3 : decode cX9_whyNot 3 = .ok (.invokestatic 28, 3) := by decide +kernel
theorem dX9_whyNot_6 : decode cX9_whyNot 6 = .ok (.ifCond .eq 14, 3) := by decide +kernel
theorem dX9_whyNot_9 : decode cX9_whyNot 9 = .ok (.iload_n 2, 1) := by decide +kernel
theorem dX9_whyNot_10 : decode cX9_whyNot 10 = .ok (.invokestatic 68, 3) := by decide +kernel
theorem dX9_whyNot_13 : decode cX9_whyNot 13 = .ok (.ifCond .ne 7, 3) := by decide +kernel
theorem dX9_whyNot_16 : decode cX9_whyNot 16 = .ok (.iconst 1, 1) := by decide +kernel
theorem dX9_whyNot_17 : decode cX9_whyNot 17 = .ok (.goto 4, 3) := by decide +kernel
theorem dX9_whyNot_20 : decode cX9_whyNot 20 = .ok (.iconst 0, 1) := by decide +kernel
theorem dX9_whyNot_21 : decode cX9_whyNot 21 = .ok (.istore_n 3, 1) := by decide +kernel
theorem dX9_whyNot_22 : decode cX9_whyNot 22 = .ok (.iload_n 3, 1) := by decide +kernel
theorem dX9_whyNot_23 : decode cX9_whyNot 23 = .ok (.ifCond .ne 45, 3) := by decide +kernel
theorem dX9_whyNot_26 : decode cX9_whyNot 26 = .ok (.iload_n 1, 1) := by decide +kernel
theorem dX9_whyNot_27 : decode cX9_whyNot 27 = .ok (.bipush 6, 2) := by decide +kernel
theorem dX9_whyNot_29 : decode cX9_whyNot 29 = .ok (.if_icmp .ne 23, 3) := by decide +kernel
theorem dX9_whyNot_32 : decode cX9_whyNot 32 = .ok (.iload_n 2, 1) := by decide +kernel
theorem dX9_whyNot_33 : decode cX9_whyNot 33 = .ok (.bipush 10, 2) := by decide +kernel
theorem dX9_whyNot_35 : decode cX9_whyNot 35 = .ok (.idiv, 1) := by decide +kernel
theorem dX9_whyNot_36 : decode cX9_whyNot 36 = .ok (.invokestatic 65, 3) := by decide +kernel
theorem dX9_whyNot_39 : decode cX9_whyNot 39 = .ok (.ifCond .eq 29, 3) := by decide +kernel
theorem dX9_whyNot_42 : decode cX9_whyNot 42 = .ok (.iload_n 2, 1) := by decide +kernel
theorem dX9_whyNot_43 : decode cX9_whyNot 43 = .ok (.bipush 10, 2) := by decide +kernel
theorem dX9_whyNot_45 : decode cX9_whyNot 45 = .ok (.irem, 1) := by decide +kernel
theorem dX9_whyNot_46 : decode cX9_whyNot 46 = .ok (.invokestatic 51, 3) := by decide +kernel
theorem dX9_whyNot_49 : decode cX9_whyNot 49 = .ok (.ifCond .eq 19, 3) := by decide +kernel
theorem dX9_whyNot_52 : decode cX9_whyNot 52 = .ok (.iload_n 1, 1) := by decide +kernel
theorem dX9_whyNot_53 : decode cX9_whyNot 53 = .ok (.bipush 7, 2) := by decide +kernel
theorem dX9_whyNot_55 : decode cX9_whyNot 55 = .ok (.if_icmp .ne 17, 3) := by decide +kernel
theorem dX9_whyNot_58 : decode cX9_whyNot 58 = .ok (.iload_n 2, 1) := by decide +kernel
theorem dX9_whyNot_59 : decode cX9_whyNot 59 = .ok (.bipush 10, 2) := by decide +kernel
theorem dX9_whyNot_61 : decode cX9_whyNot 61 = .ok (.idiv, 1) := by decide +kernel
theorem dX9_whyNot_62 : decode cX9_whyNot 62 = .ok (.invokestatic 51, 3) := by decide +kernel
theorem dX9_whyNot_65 : decode cX9_whyNot 65 = .ok (.ifCond .ne 7, 3) := by decide +kernel
theorem dX9_whyNot_68 : decode cX9_whyNot 68 = .ok (.iconst 1, 1) := by decide +kernel
theorem dX9_whyNot_69 : decode cX9_whyNot 69 = .ok (.goto 4, 3) := by decide +kernel
theorem dX9_whyNot_72 : decode cX9_whyNot 72 = .ok (.iconst 0, 1) := by decide +kernel
theorem dX9_whyNot_73 : decode cX9_whyNot 73 = .ok (.istore_n 3, 1) := by decide +kernel
theorem dX9_whyNot_74 : decode cX9_whyNot 74 = .ok (.iload_n 3, 1) := by decide +kernel
theorem dX9_whyNot_75 : decode cX9_whyNot 75 = .ok (.ifCond .eq 5, 3) := by decide +kernel
theorem dX9_whyNot_78 : decode cX9_whyNot 78 = .ok (.iconst 3, 1) := by decide +kernel
theorem dX9_whyNot_79 : decode cX9_whyNot 79 = .ok (.ireturn, 1) := by decide +kernel
theorem dX9_whyNot_80 : decode cX9_whyNot 80 = .ok (.iload_n 1, 1) := by decide +kernel
theorem dX9_whyNot_81 : decode cX9_whyNot 81 = .ok (.bipush 7, 2) := by decide +kernel
theorem dX9_whyNot_83 : decode cX9_whyNot 83 = .ok (.if_icmp .ne 19, 3) := by decide +kernel
theorem dX9_whyNot_86 : decode cX9_whyNot 86 = .ok (.aload_n 0, 1) := by decide +kernel
theorem dX9_whyNot_87 : decode cX9_whyNot 87 = .ok (.getfield 7, 3) := by decide +kernel
theorem dX9_whyNot_90 : decode cX9_whyNot 90 = .ok (.bipush 116, 2) := by decide +kernel
theorem dX9_whyNot_92 : decode cX9_whyNot 92 = .ok (.iaload, 1) := by decide +kernel
theorem dX9_whyNot_93 : decode cX9_whyNot 93 = .ok (.bipush 8, 2) := by decide +kernel
theorem dX9_whyNot_95 : decode cX9_whyNot 95 = .ok (.if_icmp .ne 7, 3) := by decide +kernel
theorem dX9_whyNot_98 : decode cX9_whyNot 98 = .ok (.iconst 4, 1) := by decide +kernel
theorem dX9_whyNot_99 : decode cX9_whyNot 99 = .ok (.goto 24, 3) := by decide +kernel
theorem dX9_whyNot_102 : decode cX9_whyNot 102 = .ok (.iload_n 1, 1) := by decide +kernel
theorem dX9_whyNot_103 : decode cX9_whyNot 103 = .ok (.bipush 8, 2) := by decide +kernel
theorem dX9_whyNot_105 : decode cX9_whyNot 105 = .ok (.if_icmp .ne 17, 3) := by decide +kernel
theorem dX9_whyNot_108 : decode cX9_whyNot 108 = .ok (.aload_n 0, 1) := by decide +kernel
theorem dX9_whyNot_109 : decode cX9_whyNot 109 = .ok (.getfield 7, 3) := by decide +kernel
theorem dX9_whyNot_112 : decode cX9_whyNot 112 = .ok (.bipush 116, 2) := by decide +kernel
theorem dX9_whyNot_114 : decode cX9_whyNot 114 = .ok (.iaload, 1) := by decide +kernel
theorem dX9_whyNot_115 : decode cX9_whyNot 115 = .ok (.ifCond .ne 7, 3) := by decide +kernel
theorem dX9_whyNot_118 : decode cX9_whyNot 118 = .ok (.iconst 5, 1) := by decide +kernel
theorem dX9_whyNot_119 : decode cX9_whyNot 119 = .ok (.goto 4, 3) := by decide +kernel
theorem dX9_whyNot_122 : decode cX9_whyNot 122 = .ok (.iconst 0, 1) := by decide +kernel
theorem dX9_whyNot_123 : decode cX9_whyNot 123 = .ok (.ireturn, 1) := by decide +kernel
theorem dX9_write_0 : decode cX9_write 0 = .ok (.aload_n 0, 1) := by decide +kernel
theorem dX9_write_1 : decode cX9_write 1 = .ok (.iload_n 1, 1) := by decide +kernel
theorem dX9_write_2 : decode cX9_write 2 = .ok (.invokevirtual 32, 3) := by decide +kernel
theorem dX9_write_5 : decode cX9_write 5 = .ok (.istore_n 2, 1) := by decide +kernel
theorem dX9_write_6 : decode cX9_write 6 = .ok (.aload_n 0, 1) := by decide +kernel
theorem dX9_write_7 : decode cX9_write 7 = .ok (.getfield 7, 3) := by decide +kernel
theorem dX9_write_10 : decode cX9_write 10 = .ok (.bipush 104, 2) := by decide +kernel
theorem dX9_write_12 : decode cX9_write 12 = .ok (.iload_n 2, 1) := by decide +kernel
theorem dX9_write_13 : decode cX9_write 13 = .ok (.iadd, 1) := by decide +kernel
theorem dX9_write_14 : decode cX9_write 14 = .ok (.iaload, 1) := by decide +kernel
theorem dX9_write_15 : decode cX9_write 15 = .ok (.iconst 1, 1) := by decide +kernel
theorem dX9_write_16 : decode cX9_write 16 = .ok (.if_icmp .ne 55, 3) := by decide +kernel
theorem dX9_write_19 : decode cX9_write 19 = .ok (.aload_n 0, 1) := by decide +kernel
theorem dX9_write_20 : decode cX9_write 20 = .ok (.getfield 7, 3) := by decide +kernel
theorem dX9_write_23 : decode cX9_write 23 = .ok (.sipush 181, 3) := by decide +kernel
theorem dX9_write_26 : decode cX9_write 26 = .ok (.dup2, 1) := by decide +kernel
theorem dX9_write_27 : decode cX9_write 27 = .ok (.iaload, 1) := by decide +kernel
theorem dX9_write_28 : decode cX9_write 28 = .ok (.iconst 1, 1) := by decide +kernel
theorem dX9_write_29 : decode cX9_write 29 = .ok (.iadd, 1) := by decide +kernel
theorem dX9_write_30 : decode cX9_write 30 = .ok (.iastore, 1) := by decide +kernel
theorem dX9_write_31 : decode cX9_write 31 = .ok (.aload_n 0, 1) := by decide +kernel
theorem dX9_write_32 : decode cX9_write 32 = .ok (.getfield 7, 3) := by decide +kernel
theorem dX9_write_35 : decode cX9_write 35 = .ok (.sipush 190, 3) := by decide +kernel
theorem dX9_write_38 : decode cX9_write 38 = .ok (.iload_n 2, 1) := by decide +kernel
theorem dX9_write_39 : decode cX9_write 39 = .ok (.iadd, 1) := by decide +kernel
theorem dX9_write_40 : decode cX9_write 40 = .ok (.dup2, 1) := by decide +kernel
theorem dX9_write_41 : decode cX9_write 41 = .ok (.iaload, 1) := by decide +kernel
theorem dX9_write_42 : decode cX9_write 42 = .ok (.iconst 1, 1) := by decide +kernel
theorem dX9_write_43 : decode cX9_write 43 = .ok (.iadd, 1) := by decide +kernel
theorem dX9_write_44 : decode cX9_write 44 = .ok (.iastore, 1) := by decide +kernel
theorem dX9_write_45 : decode cX9_write 45 = .ok (.aload_n 0, 1) := by decide +kernel
theorem dX9_write_46 : decode cX9_write 46 = .ok (.getfield 7, 3) := by decide +kernel
theorem dX9_write_49 : decode cX9_write 49 = .ok (.bipush 115, 2) := by decide +kernel
theorem dX9_write_51 : decode cX9_write 51 = .ok (.aload_n 0, 1) := by decide +kernel
theorem dX9_write_52 : decode cX9_write 52 = .ok (.getfield 7, 3) := by decide +kernel
theorem dX9_write_55 : decode cX9_write 55 = .ok (.bipush 112, 2) := by decide +kernel
theorem dX9_write_57 : decode cX9_write 57 = .ok (.iaload, 1) := by decide +kernel
theorem dX9_write_58 : decode cX9_write 58 = .ok (.iconst 1, 1) := by decide +kernel
theorem dX9_write_59 : decode cX9_write 59 = .ok (.if_icmp .ne 7, 3) := by decide +kernel
theorem dX9_write_62 : decode cX9_write 62 = .ok (.iconst 2, 1) := by decide +kernel
theorem dX9_write_63 : decode cX9_write 63 = .ok (.goto 4, 3) := by decide +kernel
theorem dX9_write_66 : decode cX9_write 66 = .ok (.iconst 0, 1) := by decide +kernel
theorem dX9_write_67 : decode cX9_write 67 = .ok (.iastore, 1) := by decide +kernel
theorem dX9_write_68 : decode cX9_write 68 = .ok (.goto 46, 3) := by decide +kernel
theorem dX9_write_71 : decode cX9_write 71 = .ok (.aload_n 0, 1) := by decide +kernel
theorem dX9_write_72 : decode cX9_write 72 = .ok (.getfield 7, 3) := by decide +kernel
theorem dX9_write_75 : decode cX9_write 75 = .ok (.aload_n 0, 1) := by decide +kernel
theorem dX9_write_76 : decode cX9_write 76 = .ok (.iload_n 1, 1) := by decide +kernel
theorem dX9_write_77 : decode cX9_write 77 = .ok (.invokevirtual 71, 3) := by decide +kernel
theorem dX9_write_80 : decode cX9_write 80 = .ok (.aload_n 0, 1) := by decide +kernel
theorem dX9_write_81 : decode cX9_write 81 = .ok (.getfield 7, 3) := by decide +kernel
theorem dX9_write_84 : decode cX9_write 84 = .ok (.bipush 113, 2) := by decide +kernel
theorem dX9_write_86 : decode cX9_write 86 = .ok (.iaload, 1) := by decide +kernel
theorem dX9_write_87 : decode cX9_write 87 = .ok (.iastore, 1) := by decide +kernel
theorem dX9_write_88 : decode cX9_write 88 = .ok (.aload_n 0, 1) := by decide +kernel
theorem dX9_write_89 : decode cX9_write 89 = .ok (.getfield 7, 3) := by decide +kernel
theorem dX9_write_92 : decode cX9_write 92 = .ok (.sipush 180, 3) := by decide +kernel
theorem dX9_write_95 : decode cX9_write 95 = .ok (.dup2, 1) := by decide +kernel
theorem dX9_write_96 : decode cX9_write 96 = .ok (.iaload, 1) := by decide +kernel
theorem dX9_write_97 : decode cX9_write 97 = .ok (.iconst 1, 1) := by decide +kernel
theorem dX9_write_98 : decode cX9_write 98 = .ok (.iadd, 1) := by decide +kernel
theorem dX9_write_99 : decode cX9_write 99 = .ok (.iastore, 1) := by decide +kernel
theorem dX9_write_100 : decode cX9_write 100 = .ok (.aload_n 0, 1) := by decide +kernel
theorem dX9_write_101 : decode cX9_write 101 = .ok (.getfield 7, 3) := by decide +kernel
theorem dX9_write_104 : decode cX9_write 104 = .ok (.sipush 182, 3) := by decide +kernel
theorem dX9_write_107 : decode cX9_write 107 = .ok (.iload_n 2, 1) := by decide +kernel
theorem dX9_write_108 : decode cX9_write 108 = .ok (.iadd, 1) := by decide +kernel
theorem dX9_write_109 : decode cX9_write 109 = .ok (.dup2, 1) := by decide +kernel
theorem dX9_write_110 : decode cX9_write 110 = .ok (.iaload, 1) := by decide +kernel
theorem dX9_write_111 : decode cX9_write 111 = .ok (.iconst 1, 1) := by decide +kernel
theorem dX9_write_112 : decode cX9_write 112 = .ok (.iadd, 1) := by decide +kernel
theorem dX9_write_113 : decode cX9_write 113 = .ok (.iastore, 1) := by decide +kernel
theorem dX9_write_114 : decode cX9_write 114 = .ok (.return_, 1) := by decide +kernel
theorem dX9_call_0 : decode cX9_call 0 = .ok (.bipush 117, 2) := by decide +kernel
theorem dX9_call_2 : decode cX9_call 2 = .ok (.iconst 3, 1) := by decide +kernel
theorem dX9_call_3 : decode cX9_call 3 = .ok (.aload_n 0, 1) := by decide +kernel
theorem dX9_call_4 : decode cX9_call 4 = .ok (.getfield 7, 3) := by decide +kernel
theorem dX9_call_7 : decode cX9_call 7 = .ok (.bipush 116, 2) := by decide +kernel
theorem dX9_call_9 : decode cX9_call 9 = .ok (.iaload, 1) := by decide +kernel
theorem dX9_call_10 : decode cX9_call 10 = .ok (.imul, 1) := by decide +kernel
theorem dX9_call_11 : decode cX9_call 11 = .ok (.iadd, 1) := by decide +kernel
theorem dX9_call_12 : decode cX9_call 12 = .ok (.istore_n 3, 1) := by decide +kernel
theorem dX9_call_13 : decode cX9_call 13 = .ok (.aload_n 0, 1) := by decide +kernel
theorem dX9_call_14 : decode cX9_call 14 = .ok (.getfield 7, 3) := by decide +kernel
theorem dX9_call_17 : decode cX9_call 17 = .ok (.iload_n 3, 1) := by decide +kernel
theorem dX9_call_18 : decode cX9_call 18 = .ok (.iload_n 1, 1) := by decide +kernel
theorem dX9_call_19 : decode cX9_call 19 = .ok (.iastore, 1) := by decide +kernel
theorem dX9_call_20 : decode cX9_call 20 = .ok (.aload_n 0, 1) := by decide +kernel
theorem dX9_call_21 : decode cX9_call 21 = .ok (.getfield 7, 3) := by decide +kernel
theorem dX9_call_24 : decode cX9_call 24 = .ok (.iload_n 3, 1) := by decide +kernel
theorem dX9_call_25 : decode cX9_call 25 = .ok (.iconst 1, 1) := by decide +kernel
theorem dX9_call_26 : decode cX9_call 26 = .ok (.iadd, 1) := by decide +kernel
theorem dX9_call_27 : decode cX9_call 27 = .ok (.aload_n 0, 1) := by decide +kernel
theorem dX9_call_28 : decode cX9_call 28 = .ok (.getfield 7, 3) := by decide +kernel
theorem dX9_call_31 : decode cX9_call 31 = .ok (.bipush 100, 2) := by decide +kernel
theorem dX9_call_33 : decode cX9_call 33 = .ok (.iload_n 1, 1) := by decide +kernel
theorem dX9_call_34 : decode cX9_call 34 = .ok (.iadd, 1) := by decide +kernel
theorem dX9_call_35 : decode cX9_call 35 = .ok (.iaload, 1) := by decide +kernel
theorem dX9_call_36 : decode cX9_call 36 = .ok (.iastore, 1) := by decide +kernel
theorem dX9_call_37 : decode cX9_call 37 = .ok (.aload_n 0, 1) := by decide +kernel
theorem dX9_call_38 : decode cX9_call 38 = .ok (.getfield 7, 3) := by decide +kernel
theorem dX9_call_41 : decode cX9_call 41 = .ok (.iload_n 3, 1) := by decide +kernel
theorem dX9_call_42 : decode cX9_call 42 = .ok (.iconst 2, 1) := by decide +kernel
theorem dX9_call_43 : decode cX9_call 43 = .ok (.iadd, 1) := by decide +kernel
theorem dX9_call_44 : decode cX9_call 44 = .ok (.aload_n 0, 1) := by decide +kernel
theorem dX9_call_45 : decode cX9_call 45 = .ok (.getfield 7, 3) := by decide +kernel
theorem dX9_call_48 : decode cX9_call 48 = .ok (.bipush 114, 2) := by decide +kernel
theorem dX9_call_50 : decode cX9_call 50 = .ok (.iaload, 1) := by decide +kernel
theorem dX9_call_51 : decode cX9_call 51 = .ok (.iastore, 1) := by decide +kernel
theorem dX9_call_52 : decode cX9_call 52 = .ok (.aload_n 0, 1) := by decide +kernel
theorem dX9_call_53 : decode cX9_call 53 = .ok (.getfield 7, 3) := by decide +kernel
theorem dX9_call_56 : decode cX9_call 56 = .ok (.bipush 116, 2) := by decide +kernel
theorem dX9_call_58 : decode cX9_call 58 = .ok (.dup2, 1) := by decide +kernel
theorem dX9_call_59 : decode cX9_call 59 = .ok (.iaload, 1) := by decide +kernel
theorem dX9_call_60 : decode cX9_call 60 = .ok (.iconst 1, 1) := by decide +kernel
theorem dX9_call_61 : decode cX9_call 61 = .ok (.iadd, 1) := by decide +kernel
theorem dX9_call_62 : decode cX9_call 62 = .ok (.iastore, 1) := by decide +kernel
theorem dX9_call_63 : decode cX9_call 63 = .ok (.aload_n 0, 1) := by decide +kernel
theorem dX9_call_64 : decode cX9_call 64 = .ok (.getfield 7, 3) := by decide +kernel
theorem dX9_call_67 : decode cX9_call 67 = .ok (.sipush 179, 3) := by decide +kernel
theorem dX9_call_70 : decode cX9_call 70 = .ok (.dup2, 1) := by decide +kernel
theorem dX9_call_71 : decode cX9_call 71 = .ok (.iaload, 1) := by decide +kernel
theorem dX9_call_72 : decode cX9_call 72 = .ok (.iconst 1, 1) := by decide +kernel
theorem dX9_call_73 : decode cX9_call 73 = .ok (.iadd, 1) := by decide +kernel
theorem dX9_call_74 : decode cX9_call 74 = .ok (.iastore, 1) := by decide +kernel
theorem dX9_call_75 : decode cX9_call 75 = .ok (.aload_n 0, 1) := by decide +kernel
theorem dX9_call_76 : decode cX9_call 76 = .ok (.getfield 7, 3) := by decide +kernel
theorem dX9_call_79 : decode cX9_call 79 = .ok (.bipush 100, 2) := by decide +kernel
theorem dX9_call_81 : decode cX9_call 81 = .ok (.iload_n 1, 1) := by decide +kernel
theorem dX9_call_82 : decode cX9_call 82 = .ok (.iadd, 1) := by decide +kernel
theorem dX9_call_83 : decode cX9_call 83 = .ok (.iload_n 2, 1) := by decide +kernel
theorem dX9_call_84 : decode cX9_call 84 = .ok (.bipush 10, 2) := by decide +kernel
theorem dX9_call_86 : decode cX9_call 86 = .ok (.idiv, 1) := by decide +kernel
theorem dX9_call_87 : decode cX9_call 87 = .ok (.iastore, 1) := by decide +kernel
theorem dX9_call_88 : decode cX9_call 88 = .ok (.aload_n 0, 1) := by decide +kernel
theorem dX9_call_89 : decode cX9_call 89 = .ok (.getfield 7, 3) := by decide +kernel
theorem dX9_call_92 : decode cX9_call 92 = .ok (.bipush 114, 2) := by decide +kernel
theorem dX9_call_94 : decode cX9_call 94 = .ok (.bipush 16, 2) := by decide +kernel
theorem dX9_call_96 : decode cX9_call 96 = .ok (.iload_n 1, 1) := by decide +kernel
theorem dX9_call_97 : decode cX9_call 97 = .ok (.imul, 1) := by decide +kernel
theorem dX9_call_98 : decode cX9_call 98 = .ok (.iload_n 2, 1) := by decide +kernel
theorem dX9_call_99 : decode cX9_call 99 = .ok (.bipush 10, 2) := by decide +kernel
theorem dX9_call_101 : decode cX9_call 101 = .ok (.irem, 1) := by decide +kernel
theorem dX9_call_102 : decode cX9_call 102 = .ok (.iadd, 1) := by decide +kernel
theorem dX9_call_103 : decode cX9_call 103 = .ok (.iastore, 1) := by decide +kernel
theorem dX9_call_104 : decode cX9_call 104 = .ok (.return_, 1) := by decide +kernel
theorem dX9_back_0 : decode cX9_back 0 = .ok (.aload_n 0, 1) := by decide +kernel
theorem dX9_back_1 : decode cX9_back 1 = .ok (.getfield 7, 3) := by decide +kernel
theorem dX9_back_4 : decode cX9_back 4 = .ok (.bipush 116, 2) := by decide +kernel
theorem dX9_back_6 : decode cX9_back 6 = .ok (.dup2, 1) := by decide +kernel
theorem dX9_back_7 : decode cX9_back 7 = .ok (.iaload, 1) := by decide +kernel
theorem dX9_back_8 : decode cX9_back 8 = .ok (.iconst 1, 1) := by decide +kernel
theorem dX9_back_9 : decode cX9_back 9 = .ok (.isub, 1) := by decide +kernel
theorem dX9_back_10 : decode cX9_back 10 = .ok (.iastore, 1) := by decide +kernel
theorem dX9_back_11 : decode cX9_back 11 = .ok (.bipush 117, 2) := by decide +kernel
theorem dX9_back_13 : decode cX9_back 13 = .ok (.iconst 3, 1) := by decide +kernel
theorem dX9_back_14 : decode cX9_back 14 = .ok (.aload_n 0, 1) := by decide +kernel
theorem dX9_back_15 : decode cX9_back 15 = .ok (.getfield 7, 3) := by decide +kernel
theorem dX9_back_18 : decode cX9_back 18 = .ok (.bipush 116, 2) := by decide +kernel
theorem dX9_back_20 : decode cX9_back 20 = .ok (.iaload, 1) := by decide +kernel
theorem dX9_back_21 : decode cX9_back 21 = .ok (.imul, 1) := by decide +kernel
theorem dX9_back_22 : decode cX9_back 22 = .ok (.iadd, 1) := by decide +kernel
theorem dX9_back_23 : decode cX9_back 23 = .ok (.istore_n 1, 1) := by decide +kernel
theorem dX9_back_24 : decode cX9_back 24 = .ok (.aload_n 0, 1) := by decide +kernel
theorem dX9_back_25 : decode cX9_back 25 = .ok (.getfield 7, 3) := by decide +kernel
theorem dX9_back_28 : decode cX9_back 28 = .ok (.bipush 100, 2) := by decide +kernel
theorem dX9_back_30 : decode cX9_back 30 = .ok (.aload_n 0, 1) := by decide +kernel
theorem dX9_back_31 : decode cX9_back 31 = .ok (.getfield 7, 3) := by decide +kernel
theorem dX9_back_34 : decode cX9_back 34 = .ok (.iload_n 1, 1) := by decide +kernel
theorem dX9_back_35 : decode cX9_back 35 = .ok (.iaload, 1) := by decide +kernel
theorem dX9_back_36 : decode cX9_back 36 = .ok (.iadd, 1) := by decide +kernel
theorem dX9_back_37 : decode cX9_back 37 = .ok (.aload_n 0, 1) := by decide +kernel
theorem dX9_back_38 : decode cX9_back 38 = .ok (.getfield 7, 3) := by decide +kernel
theorem dX9_back_41 : decode cX9_back 41 = .ok (.iload_n 1, 1) := by decide +kernel
theorem dX9_back_42 : decode cX9_back 42 = .ok (.iconst 1, 1) := by decide +kernel
theorem dX9_back_43 : decode cX9_back 43 = .ok (.iadd, 1) := by decide +kernel
theorem dX9_back_44 : decode cX9_back 44 = .ok (.iaload, 1) := by decide +kernel
theorem dX9_back_45 : decode cX9_back 45 = .ok (.iastore, 1) := by decide +kernel
theorem dX9_back_46 : decode cX9_back 46 = .ok (.aload_n 0, 1) := by decide +kernel
theorem dX9_back_47 : decode cX9_back 47 = .ok (.getfield 7, 3) := by decide +kernel
theorem dX9_back_50 : decode cX9_back 50 = .ok (.bipush 114, 2) := by decide +kernel
theorem dX9_back_52 : decode cX9_back 52 = .ok (.aload_n 0, 1) := by decide +kernel
theorem dX9_back_53 : decode cX9_back 53 = .ok (.getfield 7, 3) := by decide +kernel
theorem dX9_back_56 : decode cX9_back 56 = .ok (.iload_n 1, 1) := by decide +kernel
theorem dX9_back_57 : decode cX9_back 57 = .ok (.iconst 2, 1) := by decide +kernel
theorem dX9_back_58 : decode cX9_back 58 = .ok (.iadd, 1) := by decide +kernel
theorem dX9_back_59 : decode cX9_back 59 = .ok (.iaload, 1) := by decide +kernel
theorem dX9_back_60 : decode cX9_back 60 = .ok (.iastore, 1) := by decide +kernel
theorem dX9_back_61 : decode cX9_back 61 = .ok (.return_, 1) := by decide +kernel
theorem dX9_order_0 : decode cX9_order 0 = .ok (.iload_n 1, 1) := by decide +kernel
theorem dX9_order_1 : decode cX9_order 1 = .ok (.tableswitch 188 0 8 #[51, 62, 73, 103, 111, 122, 153, 172, 181], 51) := by decide +kernel
theorem dX9_order_52 : decode cX9_order 52 = .ok (.aload_n 0, 1) := by decide +kernel
theorem dX9_order_53 : decode cX9_order 53 = .ok (.getfield 7, 3) := by decide +kernel
theorem dX9_order_56 : decode cX9_order 56 = .ok (.bipush 115, 2) := by decide +kernel
theorem dX9_order_58 : decode cX9_order 58 = .ok (.iconst 1, 1) := by decide +kernel
theorem dX9_order_59 : decode cX9_order 59 = .ok (.iastore, 1) := by decide +kernel
theorem dX9_order_60 : decode cX9_order 60 = .ok (.goto 147, 3) := by decide +kernel
theorem dX9_order_63 : decode cX9_order 63 = .ok (.aload_n 0, 1) := by decide +kernel
theorem dX9_order_64 : decode cX9_order 64 = .ok (.getfield 7, 3) := by decide +kernel
theorem dX9_order_67 : decode cX9_order 67 = .ok (.bipush 113, 2) := by decide +kernel
theorem dX9_order_69 : decode cX9_order 69 = .ok (.iload_n 2, 1) := by decide +kernel
theorem dX9_order_70 : decode cX9_order 70 = .ok (.iastore, 1) := by decide +kernel
theorem dX9_order_71 : decode cX9_order 71 = .ok (.goto 136, 3) := by decide +kernel
theorem dX9_order_74 : decode cX9_order 74 = .ok (.aload_n 0, 1) := by decide +kernel
theorem dX9_order_75 : decode cX9_order 75 = .ok (.getfield 7, 3) := by decide +kernel
theorem dX9_order_78 : decode cX9_order 78 = .ok (.bipush 113, 2) := by decide +kernel
theorem dX9_order_80 : decode cX9_order 80 = .ok (.aload_n 0, 1) := by decide +kernel
theorem dX9_order_81 : decode cX9_order 81 = .ok (.getfield 7, 3) := by decide +kernel
theorem dX9_order_84 : decode cX9_order 84 = .ok (.bipush 113, 2) := by decide +kernel
theorem dX9_order_86 : decode cX9_order 86 = .ok (.iaload, 1) := by decide +kernel
theorem dX9_order_87 : decode cX9_order 87 = .ok (.aload_n 0, 1) := by decide +kernel
theorem dX9_order_88 : decode cX9_order 88 = .ok (.getfield 7, 3) := by decide +kernel
theorem dX9_order_91 : decode cX9_order 91 = .ok (.aload_n 0, 1) := by decide +kernel
theorem dX9_order_92 : decode cX9_order 92 = .ok (.iload_n 2, 1) := by decide +kernel
theorem dX9_order_93 : decode cX9_order 93 = .ok (.invokevirtual 71, 3) := by decide +kernel
theorem dX9_order_96 : decode cX9_order 96 = .ok (.iaload, 1) := by decide +kernel
theorem dX9_order_97 : decode cX9_order 97 = .ok (.invokestatic 74, 3) := by decide +kernel
theorem dX9_order_100 : decode cX9_order 100 = .ok (.iastore, 1) := by decide +kernel
theorem dX9_order_101 : decode cX9_order 101 = .ok (.goto 106, 3) := by decide +kernel
theorem dX9_order_104 : decode cX9_order 104 = .ok (.aload_n 0, 1) := by decide +kernel
theorem dX9_order_105 : decode cX9_order 105 = .ok (.iload_n 2, 1) := by decide +kernel
theorem dX9_order_106 : decode cX9_order 106 = .ok (.invokevirtual 77, 3) := by decide +kernel
theorem dX9_order_109 : decode cX9_order 109 = .ok (.goto 98, 3) := by decide +kernel
theorem dX9_order_112 : decode cX9_order 112 = .ok (.aload_n 0, 1) := by decide +kernel
theorem dX9_order_113 : decode cX9_order 113 = .ok (.getfield 7, 3) := by decide +kernel
theorem dX9_order_116 : decode cX9_order 116 = .ok (.bipush 114, 2) := by decide +kernel
theorem dX9_order_118 : decode cX9_order 118 = .ok (.iload_n 2, 1) := by decide +kernel
theorem dX9_order_119 : decode cX9_order 119 = .ok (.iastore, 1) := by decide +kernel
theorem dX9_order_120 : decode cX9_order 120 = .ok (.goto 87, 3) := by decide +kernel
theorem dX9_order_123 : decode cX9_order 123 = .ok (.aload_n 0, 1) := by decide +kernel
theorem dX9_order_124 : decode cX9_order 124 = .ok (.getfield 7, 3) := by decide +kernel
theorem dX9_order_127 : decode cX9_order 127 = .ok (.bipush 114, 2) := by decide +kernel
theorem dX9_order_129 : decode cX9_order 129 = .ok (.aload_n 0, 1) := by decide +kernel
theorem dX9_order_130 : decode cX9_order 130 = .ok (.getfield 7, 3) := by decide +kernel
theorem dX9_order_133 : decode cX9_order 133 = .ok (.bipush 113, 2) := by decide +kernel
theorem dX9_order_135 : decode cX9_order 135 = .ok (.iaload, 1) := by decide +kernel
theorem dX9_order_136 : decode cX9_order 136 = .ok (.ifCond .ne 7, 3) := by decide +kernel
theorem dX9_order_139 : decode cX9_order 139 = .ok (.iload_n 2, 1) := by decide +kernel
theorem dX9_order_140 : decode cX9_order 140 = .ok (.goto 10, 3) := by decide +kernel
theorem dX9_order_143 : decode cX9_order 143 = .ok (.aload_n 0, 1) := by decide +kernel
theorem dX9_order_144 : decode cX9_order 144 = .ok (.getfield 7, 3) := by decide +kernel
theorem dX9_order_147 : decode cX9_order 147 = .ok (.bipush 114, 2) := by decide +kernel
theorem dX9_order_149 : decode cX9_order 149 = .ok (.iaload, 1) := by decide +kernel
theorem dX9_order_150 : decode cX9_order 150 = .ok (.iastore, 1) := by decide +kernel
theorem dX9_order_151 : decode cX9_order 151 = .ok (.goto 56, 3) := by decide +kernel
theorem dX9_order_154 : decode cX9_order 154 = .ok (.aload_n 0, 1) := by decide +kernel
theorem dX9_order_155 : decode cX9_order 155 = .ok (.getfield 7, 3) := by decide +kernel
theorem dX9_order_158 : decode cX9_order 158 = .ok (.bipush 100, 2) := by decide +kernel
theorem dX9_order_160 : decode cX9_order 160 = .ok (.iload_n 2, 1) := by decide +kernel
theorem dX9_order_161 : decode cX9_order 161 = .ok (.bipush 10, 2) := by decide +kernel
theorem dX9_order_163 : decode cX9_order 163 = .ok (.idiv, 1) := by decide +kernel
theorem dX9_order_164 : decode cX9_order 164 = .ok (.iadd, 1) := by decide +kernel
theorem dX9_order_165 : decode cX9_order 165 = .ok (.iload_n 2, 1) := by decide +kernel
theorem dX9_order_166 : decode cX9_order 166 = .ok (.bipush 10, 2) := by decide +kernel
theorem dX9_order_168 : decode cX9_order 168 = .ok (.irem, 1) := by decide +kernel
theorem dX9_order_169 : decode cX9_order 169 = .ok (.iastore, 1) := by decide +kernel
theorem dX9_order_170 : decode cX9_order 170 = .ok (.goto 37, 3) := by decide +kernel
theorem dX9_order_173 : decode cX9_order 173 = .ok (.aload_n 0, 1) := by decide +kernel
theorem dX9_order_174 : decode cX9_order 174 = .ok (.iload_n 3, 1) := by decide +kernel
theorem dX9_order_175 : decode cX9_order 175 = .ok (.iload_n 2, 1) := by decide +kernel
theorem dX9_order_176 : decode cX9_order 176 = .ok (.invokevirtual 81, 3) := by decide +kernel
theorem dX9_order_179 : decode cX9_order 179 = .ok (.goto 28, 3) := by decide +kernel
theorem dX9_order_182 : decode cX9_order 182 = .ok (.aload_n 0, 1) := by decide +kernel
theorem dX9_order_183 : decode cX9_order 183 = .ok (.invokevirtual 85, 3) := by decide +kernel
theorem dX9_order_186 : decode cX9_order 186 = .ok (.goto 21, 3) := by decide +kernel
theorem dX9_order_189 : decode cX9_order 189 = .ok (.aload_n 0, 1) := by decide +kernel
theorem dX9_order_190 : decode cX9_order 190 = .ok (.getfield 7, 3) := by decide +kernel
theorem dX9_order_193 : decode cX9_order 193 = .ok (.bipush 113, 2) := by decide +kernel
theorem dX9_order_195 : decode cX9_order 195 = .ok (.aload_n 0, 1) := by decide +kernel
theorem dX9_order_196 : decode cX9_order 196 = .ok (.getfield 7, 3) := by decide +kernel
theorem dX9_order_199 : decode cX9_order 199 = .ok (.bipush 113, 2) := by decide +kernel
theorem dX9_order_201 : decode cX9_order 201 = .ok (.iaload, 1) := by decide +kernel
theorem dX9_order_202 : decode cX9_order 202 = .ok (.iload_n 2, 1) := by decide +kernel
theorem dX9_order_203 : decode cX9_order 203 = .ok (.invokestatic 74, 3) := by decide +kernel
theorem dX9_order_206 : decode cX9_order 206 = .ok (.iastore, 1) := by decide +kernel
theorem dX9_order_207 : decode cX9_order 207 = .ok (.return_, 1) := by decide +kernel
theorem dX9_keepStep_0 : decode cX9_keepStep 0 = .ok (.aload_n 0, 1) := by decide +kernel
theorem dX9_keepStep_1 : decode cX9_keepStep 1 = .ok (.getfield 7, 3) := by decide +kernel
theorem dX9_keepStep_4 : decode cX9_keepStep 4 = .ok (.sipush 141, 3) := by decide +kernel
theorem dX9_keepStep_7 : decode cX9_keepStep 7 = .ok (.iaload, 1) := by decide +kernel
theorem dX9_keepStep_8 : decode cX9_keepStep 8 = .ok (.bipush 12, 2) := by decide +kernel
theorem dX9_keepStep_10 : decode cX9_keepStep 10 = .ok (.if_icmp .ge 15, 3) := by decide +kernel
theorem dX9_keepStep_13 : decode cX9_keepStep 13 = .ok (.aload_n 0, 1) := by decide +kernel
theorem dX9_keepStep_14 : decode cX9_keepStep 14 = .ok (.getfield 7, 3) := by decide +kernel
theorem dX9_keepStep_17 : decode cX9_keepStep 17 = .ok (.sipush 141, 3) := by decide +kernel
theorem dX9_keepStep_20 : decode cX9_keepStep 20 = .ok (.dup2, 1) := by decide +kernel
theorem dX9_keepStep_21 : decode cX9_keepStep 21 = .ok (.iaload, 1) := by decide +kernel
theorem dX9_keepStep_22 : decode cX9_keepStep 22 = .ok (.iconst 1, 1) := by decide +kernel
theorem dX9_keepStep_23 : decode cX9_keepStep 23 = .ok (.iadd, 1) := by decide +kernel
theorem dX9_keepStep_24 : decode cX9_keepStep 24 = .ok (.iastore, 1) := by decide +kernel
theorem dX9_keepStep_25 : decode cX9_keepStep 25 = .ok (.iconst 3, 1) := by decide +kernel
theorem dX9_keepStep_26 : decode cX9_keepStep 26 = .ok (.aload_n 0, 1) := by decide +kernel
theorem dX9_keepStep_27 : decode cX9_keepStep 27 = .ok (.getfield 7, 3) := by decide +kernel
theorem dX9_keepStep_30 : decode cX9_keepStep 30 = .ok (.sipush 141, 3) := by decide +kernel
theorem dX9_keepStep_33 : decode cX9_keepStep 33 = .ok (.iaload, 1) := by decide +kernel
theorem dX9_keepStep_34 : decode cX9_keepStep 34 = .ok (.imul, 1) := by decide +kernel
theorem dX9_keepStep_35 : decode cX9_keepStep 35 = .ok (.iconst 1, 1) := by decide +kernel
theorem dX9_keepStep_36 : decode cX9_keepStep 36 = .ok (.isub, 1) := by decide +kernel
theorem dX9_keepStep_37 : decode cX9_keepStep 37 = .ok (.istore_n 3, 1) := by decide +kernel
theorem dX9_keepStep_38 : decode cX9_keepStep 38 = .ok (.iload_n 3, 1) := by decide +kernel
theorem dX9_keepStep_39 : decode cX9_keepStep 39 = .ok (.iconst 3, 1) := by decide +kernel
theorem dX9_keepStep_40 : decode cX9_keepStep 40 = .ok (.if_icmp .lt 31, 3) := by decide +kernel
theorem dX9_keepStep_43 : decode cX9_keepStep 43 = .ok (.aload_n 0, 1) := by decide +kernel
theorem dX9_keepStep_44 : decode cX9_keepStep 44 = .ok (.getfield 7, 3) := by decide +kernel
theorem dX9_keepStep_47 : decode cX9_keepStep 47 = .ok (.sipush 142, 3) := by decide +kernel
theorem dX9_keepStep_50 : decode cX9_keepStep 50 = .ok (.iload_n 3, 1) := by decide +kernel
theorem dX9_keepStep_51 : decode cX9_keepStep 51 = .ok (.iadd, 1) := by decide +kernel
theorem dX9_keepStep_52 : decode cX9_keepStep 52 = .ok (.aload_n 0, 1) := by decide +kernel
theorem dX9_keepStep_53 : decode cX9_keepStep 53 = .ok (.getfield 7, 3) := by decide +kernel
theorem dX9_keepStep_56 : decode cX9_keepStep 56 = .ok (.sipush 142, 3) := by decide +kernel
theorem dX9_keepStep_59 : decode cX9_keepStep 59 = .ok (.iload_n 3, 1) := by decide +kernel
theorem dX9_keepStep_60 : decode cX9_keepStep 60 = .ok (.iadd, 1) := by decide +kernel
theorem dX9_keepStep_61 : decode cX9_keepStep 61 = .ok (.iconst 3, 1) := by decide +kernel
theorem dX9_keepStep_62 : decode cX9_keepStep 62 = .ok (.isub, 1) := by decide +kernel
theorem dX9_keepStep_63 : decode cX9_keepStep 63 = .ok (.iaload, 1) := by decide +kernel
theorem dX9_keepStep_64 : decode cX9_keepStep 64 = .ok (.iastore, 1) := by decide +kernel
theorem dX9_keepStep_65 : decode cX9_keepStep 65 = .ok (.iinc 3 (-1), 3) := by decide +kernel
theorem dX9_keepStep_68 : decode cX9_keepStep 68 = .ok (.goto (-30), 3) := by decide +kernel
theorem dX9_keepStep_71 : decode cX9_keepStep 71 = .ok (.aload_n 0, 1) := by decide +kernel
theorem dX9_keepStep_72 : decode cX9_keepStep 72 = .ok (.getfield 7, 3) := by decide +kernel
theorem dX9_keepStep_75 : decode cX9_keepStep 75 = .ok (.sipush 142, 3) := by decide +kernel
theorem dX9_keepStep_78 : decode cX9_keepStep 78 = .ok (.iload_n 1, 1) := by decide +kernel
theorem dX9_keepStep_79 : decode cX9_keepStep 79 = .ok (.iastore, 1) := by decide +kernel
theorem dX9_keepStep_80 : decode cX9_keepStep 80 = .ok (.aload_n 0, 1) := by decide +kernel
theorem dX9_keepStep_81 : decode cX9_keepStep 81 = .ok (.getfield 7, 3) := by decide +kernel
theorem dX9_keepStep_84 : decode cX9_keepStep 84 = .ok (.sipush 143, 3) := by decide +kernel
theorem dX9_keepStep_87 : decode cX9_keepStep 87 = .ok (.aload_n 0, 1) := by decide +kernel
theorem dX9_keepStep_88 : decode cX9_keepStep 88 = .ok (.iload_n 1, 1) := by decide +kernel
theorem dX9_keepStep_89 : decode cX9_keepStep 89 = .ok (.invokevirtual 32, 3) := by decide +kernel
theorem dX9_keepStep_92 : decode cX9_keepStep 92 = .ok (.iastore, 1) := by decide +kernel
theorem dX9_keepStep_93 : decode cX9_keepStep 93 = .ok (.aload_n 0, 1) := by decide +kernel
theorem dX9_keepStep_94 : decode cX9_keepStep 94 = .ok (.getfield 7, 3) := by decide +kernel
theorem dX9_keepStep_97 : decode cX9_keepStep 97 = .ok (.sipush 144, 3) := by decide +kernel
theorem dX9_keepStep_100 : decode cX9_keepStep 100 = .ok (.iload_n 2, 1) := by decide +kernel
theorem dX9_keepStep_101 : decode cX9_keepStep 101 = .ok (.iastore, 1) := by decide +kernel
theorem dX9_keepStep_102 : decode cX9_keepStep 102 = .ok (.return_, 1) := by decide +kernel
theorem dX9_step_0 : decode cX9_step 0 = .ok (.aload_n 0, 1) := by decide +kernel
theorem dX9_step_1 : decode cX9_step 1 = .ok (.getfield 7, 3) := by decide +kernel
theorem dX9_step_4 : decode cX9_step 4 = .ok (.bipush 114, 2) := by decide +kernel
theorem dX9_step_6 : decode cX9_step 6 = .ok (.iaload, 1) := by decide +kernel
theorem dX9_step_7 : decode cX9_step 7 = .ok (.istore_n 1, 1) := by decide +kernel
theorem dX9_step_8 : decode cX9_step 8 = .ok (.aload_n 0, 1) := by decide +kernel
theorem dX9_step_9 : decode cX9_step 9 = .ok (.getfield 7, 3) := by decide +kernel
theorem dX9_step_12 : decode cX9_step 12 = .ok (.aload_n 0, 1) := by decide +kernel
theorem dX9_step_13 : decode cX9_step 13 = .ok (.iload_n 1, 1) := by decide +kernel
theorem dX9_step_14 : decode cX9_step 14 = .ok (.invokevirtual 71, 3) := by decide +kernel
theorem dX9_step_17 : decode cX9_step 17 = .ok (.iaload, 1) := by decide +kernel
theorem dX9_step_18 : decode cX9_step 18 = .ok (.istore_n 2, 1) := by decide +kernel
theorem dX9_step_19 : decode cX9_step 19 = .ok (.iload_n 2, 1) := by decide +kernel
theorem dX9_step_20 : decode cX9_step 20 = .ok (.bipush 100, 2) := by decide +kernel
theorem dX9_step_22 : decode cX9_step 22 = .ok (.idiv, 1) := by decide +kernel
theorem dX9_step_23 : decode cX9_step 23 = .ok (.istore_n 3, 1) := by decide +kernel
theorem dX9_step_24 : decode cX9_step 24 = .ok (.iload_n 2, 1) := by decide +kernel
theorem dX9_step_25 : decode cX9_step 25 = .ok (.bipush 100, 2) := by decide +kernel
theorem dX9_step_27 : decode cX9_step 27 = .ok (.irem, 1) := by decide +kernel
theorem dX9_step_28 : decode cX9_step 28 = .ok (.istore 4, 2) := by decide +kernel
theorem dX9_step_30 : decode cX9_step 30 = .ok (.aload_n 0, 1) := by decide +kernel
theorem dX9_step_31 : decode cX9_step 31 = .ok (.iload_n 1, 1) := by decide +kernel
theorem dX9_step_32 : decode cX9_step 32 = .ok (.iload_n 2, 1) := by decide +kernel
theorem dX9_step_33 : decode cX9_step 33 = .ok (.invokevirtual 88, 3) := by decide +kernel
theorem dX9_step_36 : decode cX9_step 36 = .ok (.aload_n 0, 1) := by decide +kernel
theorem dX9_step_37 : decode cX9_step 37 = .ok (.getfield 7, 3) := by decide +kernel
theorem dX9_step_40 : decode cX9_step 40 = .ok (.sipush 178, 3) := by decide +kernel
theorem dX9_step_43 : decode cX9_step 43 = .ok (.dup2, 1) := by decide +kernel
theorem dX9_step_44 : decode cX9_step 44 = .ok (.iaload, 1) := by decide +kernel
theorem dX9_step_45 : decode cX9_step 45 = .ok (.iconst 1, 1) := by decide +kernel
theorem dX9_step_46 : decode cX9_step 46 = .ok (.iadd, 1) := by decide +kernel
theorem dX9_step_47 : decode cX9_step 47 = .ok (.iastore, 1) := by decide +kernel
theorem dX9_step_48 : decode cX9_step 48 = .ok (.aload_n 0, 1) := by decide +kernel
theorem dX9_step_49 : decode cX9_step 49 = .ok (.getfield 7, 3) := by decide +kernel
theorem dX9_step_52 : decode cX9_step 52 = .ok (.bipush 114, 2) := by decide +kernel
theorem dX9_step_54 : decode cX9_step 54 = .ok (.dup2, 1) := by decide +kernel
theorem dX9_step_55 : decode cX9_step 55 = .ok (.iaload, 1) := by decide +kernel
theorem dX9_step_56 : decode cX9_step 56 = .ok (.iconst 1, 1) := by decide +kernel
theorem dX9_step_57 : decode cX9_step 57 = .ok (.iadd, 1) := by decide +kernel
theorem dX9_step_58 : decode cX9_step 58 = .ok (.iastore, 1) := by decide +kernel
theorem dX9_step_59 : decode cX9_step 59 = .ok (.aload_n 0, 1) := by decide +kernel
theorem dX9_step_60 : decode cX9_step 60 = .ok (.getfield 7, 3) := by decide +kernel
theorem dX9_step_63 : decode cX9_step 63 = .ok (.bipush 115, 2) := by decide +kernel
theorem dX9_step_65 : decode cX9_step 65 = .ok (.aload_n 0, 1) := by decide +kernel
theorem dX9_step_66 : decode cX9_step 66 = .ok (.iload_n 3, 1) := by decide +kernel
theorem dX9_step_67 : decode cX9_step 67 = .ok (.iload 4, 2) := by decide +kernel
theorem dX9_step_69 : decode cX9_step 69 = .ok (.invokevirtual 91, 3) := by decide +kernel
theorem dX9_step_72 : decode cX9_step 72 = .ok (.iastore, 1) := by decide +kernel
theorem dX9_step_73 : decode cX9_step 73 = .ok (.aload_n 0, 1) := by decide +kernel
theorem dX9_step_74 : decode cX9_step 74 = .ok (.getfield 7, 3) := by decide +kernel
theorem dX9_step_77 : decode cX9_step 77 = .ok (.bipush 115, 2) := by decide +kernel
theorem dX9_step_79 : decode cX9_step 79 = .ok (.iaload, 1) := by decide +kernel
theorem dX9_step_80 : decode cX9_step 80 = .ok (.ifCond .ne 14, 3) := by decide +kernel
theorem dX9_step_83 : decode cX9_step 83 = .ok (.aload_n 0, 1) := by decide +kernel
theorem dX9_step_84 : decode cX9_step 84 = .ok (.iload_n 3, 1) := by decide +kernel
theorem dX9_step_85 : decode cX9_step 85 = .ok (.iload 4, 2) := by decide +kernel
theorem dX9_step_87 : decode cX9_step 87 = .ok (.iload_n 1, 1) := by decide +kernel
theorem dX9_step_88 : decode cX9_step 88 = .ok (.bipush 16, 2) := by decide +kernel
theorem dX9_step_90 : decode cX9_step 90 = .ok (.idiv, 1) := by decide +kernel
theorem dX9_step_91 : decode cX9_step 91 = .ok (.invokevirtual 94, 3) := by decide +kernel
theorem dX9_step_94 : decode cX9_step 94 = .ok (.aload_n 0, 1) := by decide +kernel
theorem dX9_step_95 : decode cX9_step 95 = .ok (.getfield 7, 3) := by decide +kernel
theorem dX9_step_98 : decode cX9_step 98 = .ok (.bipush 115, 2) := by decide +kernel
theorem dX9_step_100 : decode cX9_step 100 = .ok (.iaload, 1) := by decide +kernel
theorem dX9_step_101 : decode cX9_step 101 = .ok (.ifCond .ne 24, 3) := by decide +kernel
theorem dX9_step_104 : decode cX9_step 104 = .ok (.aload_n 0, 1) := by decide +kernel
theorem dX9_step_105 : decode cX9_step 105 = .ok (.getfield 7, 3) := by decide +kernel
theorem dX9_step_108 : decode cX9_step 108 = .ok (.bipush 114, 2) := by decide +kernel
theorem dX9_step_110 : decode cX9_step 110 = .ok (.iaload, 1) := by decide +kernel
theorem dX9_step_111 : decode cX9_step 111 = .ok (.bipush 64, 2) := by decide +kernel
theorem dX9_step_113 : decode cX9_step 113 = .ok (.if_icmp .ne 12, 3) := by decide +kernel
theorem dX9_step_116 : decode cX9_step 116 = .ok (.aload_n 0, 1) := by decide +kernel
theorem dX9_step_117 : decode cX9_step 117 = .ok (.getfield 7, 3) := by decide +kernel
theorem dX9_step_120 : decode cX9_step 120 = .ok (.bipush 115, 2) := by decide +kernel
theorem dX9_step_122 : decode cX9_step 122 = .ok (.bipush 6, 2) := by decide +kernel
theorem dX9_step_124 : decode cX9_step 124 = .ok (.iastore, 1) := by decide +kernel
theorem dX9_step_125 : decode cX9_step 125 = .ok (.return_, 1) := by decide +kernel
theorem dX9_doRun_0 : decode cX9_doRun 0 = .ok (.iconst 0, 1) := by decide +kernel
theorem dX9_doRun_1 : decode cX9_doRun 1 = .ok (.istore_n 2, 1) := by decide +kernel
theorem dX9_doRun_2 : decode cX9_doRun 2 = .ok (.iload_n 2, 1) := by decide +kernel
theorem dX9_doRun_3 : decode cX9_doRun 3 = .ok (.iload_n 1, 1) := by decide +kernel
theorem dX9_doRun_4 : decode cX9_doRun 4 = .ok (.if_icmp .ge 23, 3) := by decide +kernel
theorem dX9_doRun_7 : decode cX9_doRun 7 = .ok (.aload_n 0, 1) := by decide +kernel
theorem dX9_doRun_8 : decode cX9_doRun 8 = .ok (.getfield 7, 3) := by decide +kernel
theorem dX9_doRun_11 : decode cX9_doRun 11 = .ok (.bipush 115, 2) := by decide +kernel
theorem dX9_doRun_13 : decode cX9_doRun 13 = .ok (.iaload, 1) := by decide +kernel
theorem dX9_doRun_14 : decode cX9_doRun 14 = .ok (.ifCond .ne 13, 3) := by decide +kernel
theorem dX9_doRun_17 : decode cX9_doRun 17 = .ok (.aload_n 0, 1) := by decide +kernel
theorem dX9_doRun_18 : decode cX9_doRun 18 = .ok (.invokevirtual 98, 3) := by decide +kernel
theorem dX9_doRun_21 : decode cX9_doRun 21 = .ok (.iinc 2 1, 3) := by decide +kernel
theorem dX9_doRun_24 : decode cX9_doRun 24 = .ok (.goto (-22), 3) := by decide +kernel
theorem dX9_doRun_27 : decode cX9_doRun 27 = .ok (.iload_n 2, 1) := by decide +kernel
theorem dX9_doRun_28 : decode cX9_doRun 28 = .ok (.ireturn, 1) := by decide +kernel
theorem dX9_run_0 : decode cX9_run 0 = .ok (.iload_n 1, 1) := by decide +kernel
theorem dX9_run_1 : decode cX9_run 1 = .ok (.iconst 1, 1) := by decide +kernel
theorem dX9_run_2 : decode cX9_run 2 = .ok (.sipush 999, 3) := by decide +kernel
theorem dX9_run_5 : decode cX9_run 5 = .ok (.invokestatic 28, 3) := by decide +kernel
theorem dX9_run_8 : decode cX9_run 8 = .ok (.ifCond .ne 6, 3) := by decide +kernel
theorem dX9_run_11 : decode cX9_run 11 = .ok (.bipush (-2), 2) := by decide +kernel
theorem dX9_run_13 : decode cX9_run 13 = .ok (.ireturn, 1) := by decide +kernel
theorem dX9_run_14 : decode cX9_run 14 = .ok (.aload_n 0, 1) := by decide +kernel
theorem dX9_run_15 : decode cX9_run 15 = .ok (.getfield 7, 3) := by decide +kernel
theorem dX9_run_18 : decode cX9_run 18 = .ok (.bipush 115, 2) := by decide +kernel
theorem dX9_run_20 : decode cX9_run 20 = .ok (.iaload, 1) := by decide +kernel
theorem dX9_run_21 : decode cX9_run 21 = .ok (.ifCond .le 6, 3) := by decide +kernel
theorem dX9_run_24 : decode cX9_run 24 = .ok (.bipush (-4), 2) := by decide +kernel
theorem dX9_run_26 : decode cX9_run 26 = .ok (.ireturn, 1) := by decide +kernel
theorem dX9_run_27 : decode cX9_run 27 = .ok (.aload_n 0, 1) := by decide +kernel
theorem dX9_run_28 : decode cX9_run 28 = .ok (.getfield 7, 3) := by decide +kernel
theorem dX9_run_31 : decode cX9_run 31 = .ok (.sipush 178, 3) := by decide +kernel
theorem dX9_run_34 : decode cX9_run 34 = .ok (.iaload, 1) := by decide +kernel
theorem dX9_run_35 : decode cX9_run 35 = .ok (.iload_n 1, 1) := by decide +kernel
theorem dX9_run_36 : decode cX9_run 36 = .ok (.iadd, 1) := by decide +kernel
theorem dX9_run_37 : decode cX9_run 37 = .ok (.ldc 101, 2) := by decide +kernel
theorem dX9_run_39 : decode cX9_run 39 = .ok (.if_icmp .le 6, 3) := by decide +kernel
theorem dX9_run_42 : decode cX9_run 42 = .ok (.bipush (-3), 2) := by decide +kernel
theorem dX9_run_44 : decode cX9_run 44 = .ok (.ireturn, 1) := by decide +kernel
theorem dX9_run_45 : decode cX9_run 45 = .ok (.aload_n 0, 1) := by decide +kernel
theorem dX9_run_46 : decode cX9_run 46 = .ok (.invokevirtual 48, 3) := by decide +kernel
theorem dX9_run_49 : decode cX9_run 49 = .ok (.aload_n 0, 1) := by decide +kernel
theorem dX9_run_50 : decode cX9_run 50 = .ok (.iload_n 1, 1) := by decide +kernel
theorem dX9_run_51 : decode cX9_run 51 = .ok (.invokevirtual 102, 3) := by decide +kernel
theorem dX9_run_54 : decode cX9_run 54 = .ok (.ireturn, 1) := by decide +kernel
theorem dX9_type_0 : decode cX9_type 0 = .ok (.aload_n 0, 1) := by decide +kernel
theorem dX9_type_1 : decode cX9_type 1 = .ok (.getfield 105, 3) := by decide +kernel
theorem dX9_type_4 : decode cX9_type 4 = .ok (.bipush 80, 2) := by decide +kernel
theorem dX9_type_6 : decode cX9_type 6 = .ok (.if_icmp .ne 6, 3) := by decide +kernel
theorem dX9_type_9 : decode cX9_type 9 = .ok (.bipush (-3), 2) := by decide +kernel
theorem dX9_type_11 : decode cX9_type 11 = .ok (.ireturn, 1) := by decide +kernel
theorem dX9_type_12 : decode cX9_type 12 = .ok (.aload_n 0, 1) := by decide +kernel
theorem dX9_type_13 : decode cX9_type 13 = .ok (.getfield 22, 3) := by decide +kernel
theorem dX9_type_16 : decode cX9_type 16 = .ok (.aload_n 0, 1) := by decide +kernel
theorem dX9_type_17 : decode cX9_type 17 = .ok (.getfield 105, 3) := by decide +kernel
theorem dX9_type_20 : decode cX9_type 20 = .ok (.iload_n 1, 1) := by decide +kernel
theorem dX9_type_21 : decode cX9_type 21 = .ok (.iastore, 1) := by decide +kernel
theorem dX9_type_22 : decode cX9_type 22 = .ok (.aload_n 0, 1) := by decide +kernel
theorem dX9_type_23 : decode cX9_type 23 = .ok (.dup, 1) := by decide +kernel
theorem dX9_type_24 : decode cX9_type 24 = .ok (.getfield 105, 3) := by decide +kernel
theorem dX9_type_27 : decode cX9_type 27 = .ok (.iconst 1, 1) := by decide +kernel
theorem dX9_type_28 : decode cX9_type 28 = .ok (.iadd, 1) := by decide +kernel
theorem dX9_type_29 : decode cX9_type 29 = .ok (.putfield 105, 3) := by decide +kernel
theorem dX9_type_32 : decode cX9_type 32 = .ok (.aload_n 0, 1) := by decide +kernel
theorem dX9_type_33 : decode cX9_type 33 = .ok (.getfield 105, 3) := by decide +kernel
theorem dX9_type_36 : decode cX9_type 36 = .ok (.ireturn, 1) := by decide +kernel
theorem dX9_clearText_0 : decode cX9_clearText 0 = .ok (.aload_n 0, 1) := by decide +kernel
theorem dX9_clearText_1 : decode cX9_clearText 1 = .ok (.getfield 105, 3) := by decide +kernel
theorem dX9_clearText_4 : decode cX9_clearText 4 = .ok (.istore_n 1, 1) := by decide +kernel
theorem dX9_clearText_5 : decode cX9_clearText 5 = .ok (.aload_n 0, 1) := by decide +kernel
theorem dX9_clearText_6 : decode cX9_clearText 6 = .ok (.iconst 0, 1) := by decide +kernel
theorem dX9_clearText_7 : decode cX9_clearText 7 = .ok (.putfield 105, 3) := by decide +kernel
theorem dX9_clearText_10 : decode cX9_clearText 10 = .ok (.iload_n 1, 1) := by decide +kernel
theorem dX9_clearText_11 : decode cX9_clearText 11 = .ok (.ireturn, 1) := by decide +kernel
theorem dX9_sign_0 : decode cX9_sign 0 = .ok (.aload_n 0, 1) := by decide +kernel
theorem dX9_sign_1 : decode cX9_sign 1 = .ok (.getfield 108, 3) := by decide +kernel
theorem dX9_sign_4 : decode cX9_sign 4 = .ok (.aload_n 0, 1) := by decide +kernel
theorem dX9_sign_5 : decode cX9_sign 5 = .ok (.getfield 105, 3) := by decide +kernel
theorem dX9_sign_8 : decode cX9_sign 8 = .ok (.if_icmp .ge 15, 3) := by decide +kernel
theorem dX9_sign_11 : decode cX9_sign 11 = .ok (.aload_n 0, 1) := by decide +kernel
theorem dX9_sign_12 : decode cX9_sign 12 = .ok (.getfield 22, 3) := by decide +kernel
theorem dX9_sign_15 : decode cX9_sign 15 = .ok (.aload_n 0, 1) := by decide +kernel
theorem dX9_sign_16 : decode cX9_sign 16 = .ok (.getfield 108, 3) := by decide +kernel

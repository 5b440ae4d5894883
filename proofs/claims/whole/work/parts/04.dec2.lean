theorem dX8_begin_34 : decode cX8_begin 34 = .ok (.iload_n 1, 1) := by decide +kernel
theorem dX8_begin_35 : decode cX8_begin 35 = .ok (.invokevirtual 103, 3) := by decide +kernel
theorem dX8_begin_38 : decode cX8_begin 38 = .ok (.iload_n 2, 1) := by decide +kernel
theorem dX8_begin_39 : decode cX8_begin 39 = .ok (.ireturn, 1) := by decide +kernel
theorem dX8_run_0 : decode cX8_run 0 = .ok (.iload_n 1, 1) := by decide +kernel
theorem dX8_run_1 : decode cX8_run 1 = .ok (.invokestatic 107, 3) := by decide +kernel
theorem dX8_run_4 : decode cX8_run 4 = .ok (.ifCond .ne 6, 3) := by decide +kernel
theorem dX8_run_7 : decode cX8_run 7 = .ok (.bipush (-2), 2) := by decide +kernel
theorem dX8_run_9 : decode cX8_run 9 = .ok (.ireturn, 1) := by decide +kernel
theorem dX8_run_10 : decode cX8_run 10 = .ok (.aload_n 0, 1) := by decide +kernel
theorem dX8_run_11 : decode cX8_run 11 = .ok (.getfield 10, 3) := by decide +kernel
theorem dX8_run_14 : decode cX8_run 14 = .ok (.getfield 110, 3) := by decide +kernel
theorem dX8_run_17 : decode cX8_run 17 = .ok (.ifCond .eq 6, 3) := by decide +kernel
theorem dX8_run_20 : decode cX8_run 20 = .ok (.bipush (-4), 2) := by decide +kernel
theorem dX8_run_22 : decode cX8_run 22 = .ok (.ireturn, 1) := by decide +kernel
theorem dX8_run_23 : decode cX8_run 23 = .ok (.aload_n 0, 1) := by decide +kernel
theorem dX8_run_24 : decode cX8_run 24 = .ok (.getfield 10, 3) := by decide +kernel
theorem dX8_run_27 : decode cX8_run 27 = .ok (.getfield 113, 3) := by decide +kernel
theorem dX8_run_30 : decode cX8_run 30 = .ok (.getfield 117, 3) := by decide +kernel
theorem dX8_run_33 : decode cX8_run 33 = .ok (.iload_n 1, 1) := by decide +kernel
theorem dX8_run_34 : decode cX8_run 34 = .ok (.iadd, 1) := by decide +kernel
theorem dX8_run_35 : decode cX8_run 35 = .ok (.ldc 122, 2) := by decide +kernel
theorem dX8_run_37 : decode cX8_run 37 = .ok (.if_icmp .le 6, 3) := by decide +kernel
theorem dX8_run_40 : decode cX8_run 40 = .ok (.bipush (-3), 2) := by decide +kernel
theorem dX8_run_42 : decode cX8_run 42 = .ok (.ireturn, 1) := by decide +kernel
theorem dX8_run_43 : decode cX8_run 43 = .ok (.aload_n 0, 1) := by decide +kernel
theorem dX8_run_44 : decode cX8_run 44 = .ok (.getfield 25, 3) := by decide +kernel
theorem dX8_run_47 : decode cX8_run 47 = .ok (.aload_n 0, 1) := by decide +kernel
theorem dX8_run_48 : decode cX8_run 48 = .ok (.getfield 10, 3) := by decide +kernel
theorem dX8_run_51 : decode cX8_run 51 = .ok (.invokevirtual 57, 3) := by decide +kernel
theorem dX8_run_54 : decode cX8_run 54 = .ok (.aload_n 0, 1) := by decide +kernel
theorem dX8_run_55 : decode cX8_run 55 = .ok (.getfield 10, 3) := by decide +kernel
theorem dX8_run_58 : decode cX8_run 58 = .ok (.iload_n 1, 1) := by decide +kernel
theorem dX8_run_59 : decode cX8_run 59 = .ok (.invokevirtual 123, 3) := by decide +kernel
theorem dX8_run_62 : decode cX8_run 62 = .ok (.ireturn, 1) := by decide +kernel
theorem dX8_type_0 : decode cX8_type 0 = .ok (.aload_n 0, 1) := by decide +kernel
theorem dX8_type_1 : decode cX8_type 1 = .ok (.getfield 32, 3) := by decide +kernel
theorem dX8_type_4 : decode cX8_type 4 = .ok (.invokevirtual 126, 3) := by decide +kernel
theorem dX8_type_7 : decode cX8_type 7 = .ok (.ifCond .eq 6, 3) := by decide +kernel
theorem dX8_type_10 : decode cX8_type 10 = .ok (.bipush (-3), 2) := by decide +kernel
theorem dX8_type_12 : decode cX8_type 12 = .ok (.ireturn, 1) := by decide +kernel
theorem dX8_type_13 : decode cX8_type 13 = .ok (.aload_n 0, 1) := by decide +kernel
theorem dX8_type_14 : decode cX8_type 14 = .ok (.getfield 32, 3) := by decide +kernel
theorem dX8_type_17 : decode cX8_type 17 = .ok (.iload_n 1, 1) := by decide +kernel
theorem dX8_type_18 : decode cX8_type 18 = .ok (.invokevirtual 130, 3) := by decide +kernel
theorem dX8_type_21 : decode cX8_type 21 = .ok (.aload_n 0, 1) := by decide +kernel
theorem dX8_type_22 : decode cX8_type 22 = .ok (.getfield 32, 3) := by decide +kernel
theorem dX8_type_25 : decode cX8_type 25 = .ok (.getfield 134, 3) := by decide +kernel
theorem dX8_type_28 : decode cX8_type 28 = .ok (.ireturn, 1) := by decide +kernel
theorem dX8_clearText_0 : decode cX8_clearText 0 = .ok (.aload_n 0, 1) := by decide +kernel
theorem dX8_clearText_1 : decode cX8_clearText 1 = .ok (.getfield 32, 3) := by decide +kernel
theorem dX8_clearText_4 : decode cX8_clearText 4 = .ok (.getfield 134, 3) := by decide +kernel
theorem dX8_clearText_7 : decode cX8_clearText 7 = .ok (.istore_n 1, 1) := by decide +kernel
theorem dX8_clearText_8 : decode cX8_clearText 8 = .ok (.aload_n 0, 1) := by decide +kernel
theorem dX8_clearText_9 : decode cX8_clearText 9 = .ok (.getfield 32, 3) := by decide +kernel
theorem dX8_clearText_12 : decode cX8_clearText 12 = .ok (.iconst 0, 1) := by decide +kernel
theorem dX8_clearText_13 : decode cX8_clearText 13 = .ok (.putfield 134, 3) := by decide +kernel
theorem dX8_clearText_16 : decode cX8_clearText 16 = .ok (.iload_n 1, 1) := by decide +kernel
theorem dX8_clearText_17 : decode cX8_clearText 17 = .ok (.ireturn, 1) := by decide +kernel
theorem dX8_assemble_0 : decode cX8_assemble 0 = .ok (.iload_n 1, 1) := by decide +kernel
theorem dX8_assemble_1 : decode cX8_assemble 1 = .ok (.bipush 8, 2) := by decide +kernel
theorem dX8_assemble_3 : decode cX8_assemble 3 = .ok (.invokestatic 43, 3) := by decide +kernel
theorem dX8_assemble_6 : decode cX8_assemble 6 = .ok (.ifCond .eq 12, 3) := by decide +kernel
theorem dX8_assemble_9 : decode cX8_assemble 9 = .ok (.iload_n 2, 1) := by decide +kernel
theorem dX8_assemble_10 : decode cX8_assemble 10 = .ok (.bipush 16, 2) := by decide +kernel
theorem dX8_assemble_12 : decode cX8_assemble 12 = .ok (.invokestatic 43, 3) := by decide +kernel
theorem dX8_assemble_15 : decode cX8_assemble 15 = .ok (.ifCond .ne 5, 3) := by decide +kernel
theorem dX8_assemble_18 : decode cX8_assemble 18 = .ok (.iconst (-1), 1) := by decide +kernel
theorem dX8_assemble_19 : decode cX8_assemble 19 = .ok (.ireturn, 1) := by decide +kernel
theorem dX8_assemble_20 : decode cX8_assemble 20 = .ok (.aload_n 0, 1) := by decide +kernel
theorem dX8_assemble_21 : decode cX8_assemble 21 = .ok (.getfield 39, 3) := by decide +kernel
theorem dX8_assemble_24 : decode cX8_assemble 24 = .ok (.aload_n 0, 1) := by decide +kernel
theorem dX8_assemble_25 : decode cX8_assemble 25 = .ok (.getfield 32, 3) := by decide +kernel
theorem dX8_assemble_28 : decode cX8_assemble 28 = .ok (.invokevirtual 137, 3) := by decide +kernel
theorem dX8_assemble_31 : decode cX8_assemble 31 = .ok (.aload_n 0, 1) := by decide +kernel
theorem dX8_assemble_32 : decode cX8_assemble 32 = .ok (.getfield 39, 3) := by decide +kernel
theorem dX8_assemble_35 : decode cX8_assemble 35 = .ok (.getfield 141, 3) := by decide +kernel
theorem dX8_assemble_38 : decode cX8_assemble 38 = .ok (.ifCond .ne 14, 3) := by decide +kernel
theorem dX8_assemble_41 : decode cX8_assemble 41 = .ok (.bipush (-100), 2) := by decide +kernel
theorem dX8_assemble_43 : decode cX8_assemble 43 = .ok (.aload_n 0, 1) := by decide +kernel
theorem dX8_assemble_44 : decode cX8_assemble 44 = .ok (.getfield 39, 3) := by decide +kernel
theorem dX8_assemble_47 : decode cX8_assemble 47 = .ok (.getfield 145, 3) := by decide +kernel
theorem dX8_assemble_50 : decode cX8_assemble 50 = .ok (.isub, 1) := by decide +kernel
theorem dX8_assemble_51 : decode cX8_assemble 51 = .ok (.ireturn, 1) := by decide +kernel
theorem dX8_assemble_52 : decode cX8_assemble 52 = .ok (.aload_n 0, 1) := by decide +kernel
theorem dX8_assemble_53 : decode cX8_assemble 53 = .ok (.getfield 39, 3) := by decide +kernel
theorem dX8_assemble_56 : decode cX8_assemble 56 = .ok (.getfield 148, 3) := by decide +kernel
theorem dX8_assemble_59 : decode cX8_assemble 59 = .ok (.bipush 16, 2) := by decide +kernel
theorem dX8_assemble_61 : decode cX8_assemble 61 = .ok (.iload_n 2, 1) := by decide +kernel
theorem dX8_assemble_62 : decode cX8_assemble 62 = .ok (.isub, 1) := by decide +kernel
theorem dX8_assemble_63 : decode cX8_assemble 63 = .ok (.if_icmp .le 6, 3) := by decide +kernel
theorem dX8_assemble_66 : decode cX8_assemble 66 = .ok (.bipush (-3), 2) := by decide +kernel
theorem dX8_assemble_68 : decode cX8_assemble 68 = .ok (.ireturn, 1) := by decide +kernel
theorem dX8_assemble_69 : decode cX8_assemble 69 = .ok (.aload_n 0, 1) := by decide +kernel
theorem dX8_assemble_70 : decode cX8_assemble 70 = .ok (.getfield 25, 3) := by decide +kernel
theorem dX8_assemble_73 : decode cX8_assemble 73 = .ok (.aload_n 0, 1) := by decide +kernel
theorem dX8_assemble_74 : decode cX8_assemble 74 = .ok (.getfield 10, 3) := by decide +kernel
theorem dX8_assemble_77 : decode cX8_assemble 77 = .ok (.invokevirtual 57, 3) := by decide +kernel
theorem dX8_assemble_80 : decode cX8_assemble 80 = .ok (.iconst 0, 1) := by decide +kernel
theorem dX8_assemble_81 : decode cX8_assemble 81 = .ok (.istore_n 3, 1) := by decide +kernel
theorem dX8_assemble_82 : decode cX8_assemble 82 = .ok (.iload_n 3, 1) := by decide +kernel
theorem dX8_assemble_83 : decode cX8_assemble 83 = .ok (.aload_n 0, 1) := by decide +kernel
theorem dX8_assemble_84 : decode cX8_assemble 84 = .ok (.getfield 39, 3) := by decide +kernel
theorem dX8_assemble_87 : decode cX8_assemble 87 = .ok (.getfield 148, 3) := by decide +kernel
theorem dX8_assemble_90 : decode cX8_assemble 90 = .ok (.if_icmp .ge 34, 3) := by decide +kernel
theorem dX8_assemble_93 : decode cX8_assemble 93 = .ok (.aload_n 0, 1) := by decide +kernel
theorem dX8_assemble_94 : decode cX8_assemble 94 = .ok (.getfield 10, 3) := by decide +kernel
theorem dX8_assemble_97 : decode cX8_assemble 97 = .ok (.getfield 47, 3) := by decide +kernel
theorem dX8_assemble_100 : decode cX8_assemble 100 = .ok (.iload_n 1, 1) := by decide +kernel
theorem dX8_assemble_101 : decode cX8_assemble 101 = .ok (.iload_n 2, 1) := by decide +kernel
theorem dX8_assemble_102 : decode cX8_assemble 102 = .ok (.iload_n 3, 1) := by decide +kernel
theorem dX8_assemble_103 : decode cX8_assemble 103 = .ok (.iadd, 1) := by decide +kernel
theorem dX8_assemble_104 : decode cX8_assemble 104 = .ok (.aload_n 0, 1) := by decide +kernel
theorem dX8_assemble_105 : decode cX8_assemble 105 = .ok (.getfield 39, 3) := by decide +kernel
theorem dX8_assemble_108 : decode cX8_assemble 108 = .ok (.getfield 151, 3) := by decide +kernel
theorem dX8_assemble_111 : decode cX8_assemble 111 = .ok (.iload_n 3, 1) := by decide +kernel
theorem dX8_assemble_112 : decode cX8_assemble 112 = .ok (.invokevirtual 86, 3) := by decide +kernel
theorem dX8_assemble_115 : decode cX8_assemble 115 = .ok (.invokevirtual 61, 3) := by decide +kernel
theorem dX8_assemble_118 : decode cX8_assemble 118 = .ok (.iinc 3 1, 3) := by decide +kernel
theorem dX8_assemble_121 : decode cX8_assemble 121 = .ok (.goto (-39), 3) := by decide +kernel
theorem dX8_assemble_124 : decode cX8_assemble 124 = .ok (.aload_n 0, 1) := by decide +kernel
theorem dX8_assemble_125 : decode cX8_assemble 125 = .ok (.getfield 39, 3) := by decide +kernel
theorem dX8_assemble_128 : decode cX8_assemble 128 = .ok (.getfield 148, 3) := by decide +kernel
theorem dX8_assemble_131 : decode cX8_assemble 131 = .ok (.ireturn, 1) := by decide +kernel
theorem dX8_undo_0 : decode cX8_undo 0 = .ok (.aload_n 0, 1) := by decide +kernel
theorem dX8_undo_1 : decode cX8_undo 1 = .ok (.getfield 25, 3) := by decide +kernel
theorem dX8_undo_4 : decode cX8_undo 4 = .ok (.getfield 154, 3) := by decide +kernel
theorem dX8_undo_7 : decode cX8_undo 7 = .ok (.ifCond .ne 6, 3) := by decide +kernel
theorem dX8_undo_10 : decode cX8_undo 10 = .ok (.bipush (-5), 2) := by decide +kernel
theorem dX8_undo_12 : decode cX8_undo 12 = .ok (.ireturn, 1) := by decide +kernel
theorem dX8_undo_13 : decode cX8_undo 13 = .ok (.aload_n 0, 1) := by decide +kernel
theorem dX8_undo_14 : decode cX8_undo 14 = .ok (.getfield 25, 3) := by decide +kernel
theorem dX8_undo_17 : decode cX8_undo 17 = .ok (.aload_n 0, 1) := by decide +kernel
theorem dX8_undo_18 : decode cX8_undo 18 = .ok (.getfield 10, 3) := by decide +kernel
theorem dX8_undo_21 : decode cX8_undo 21 = .ok (.invokevirtual 155, 3) := by decide +kernel
theorem dX8_undo_24 : decode cX8_undo 24 = .ok (.aload_n 0, 1) := by decide +kernel
theorem dX8_undo_25 : decode cX8_undo 25 = .ok (.getfield 25, 3) := by decide +kernel
theorem dX8_undo_28 : decode cX8_undo 28 = .ok (.getfield 154, 3) := by decide +kernel
theorem dX8_undo_31 : decode cX8_undo 31 = .ok (.ireturn, 1) := by decide +kernel
theorem dX8_keep_0 : decode cX8_keep 0 = .ok (.aload_n 0, 1) := by decide +kernel
theorem dX8_keep_1 : decode cX8_keep 1 = .ok (.getfield 19, 3) := by decide +kernel
theorem dX8_keep_4 : decode cX8_keep 4 = .ok (.aload_n 0, 1) := by decide +kernel
theorem dX8_keep_5 : decode cX8_keep 5 = .ok (.getfield 10, 3) := by decide +kernel
theorem dX8_keep_8 : decode cX8_keep 8 = .ok (.invokevirtual 158, 3) := by decide +kernel
theorem dX8_keep_11 : decode cX8_keep 11 = .ok (.aload_n 0, 1) := by decide +kernel
theorem dX8_keep_12 : decode cX8_keep 12 = .ok (.iconst 1, 1) := by decide +kernel
theorem dX8_keep_13 : decode cX8_keep 13 = .ok (.putfield 161, 3) := by decide +kernel
theorem dX8_keep_16 : decode cX8_keep 16 = .ok (.aload_n 0, 1) := by decide +kernel
theorem dX8_keep_17 : decode cX8_keep 17 = .ok (.getfield 10, 3) := by decide +kernel
theorem dX8_keep_20 : decode cX8_keep 20 = .ok (.getfield 100, 3) := by decide +kernel
theorem dX8_keep_23 : decode cX8_keep 23 = .ok (.ireturn, 1) := by decide +kernel
theorem dX8_restore_0 : decode cX8_restore 0 = .ok (.aload_n 0, 1) := by decide +kernel
theorem dX8_restore_1 : decode cX8_restore 1 = .ok (.getfield 161, 3) := by decide +kernel
theorem dX8_restore_4 : decode cX8_restore 4 = .ok (.ifCond .ne 6, 3) := by decide +kernel
theorem dX8_restore_7 : decode cX8_restore 7 = .ok (.bipush (-5), 2) := by decide +kernel
theorem dX8_restore_9 : decode cX8_restore 9 = .ok (.ireturn, 1) := by decide +kernel
theorem dX8_restore_10 : decode cX8_restore 10 = .ok (.aload_n 0, 1) := by decide +kernel
theorem dX8_restore_11 : decode cX8_restore 11 = .ok (.getfield 25, 3) := by decide +kernel
theorem dX8_restore_14 : decode cX8_restore 14 = .ok (.aload_n 0, 1) := by decide +kernel
theorem dX8_restore_15 : decode cX8_restore 15 = .ok (.getfield 10, 3) := by decide +kernel
theorem dX8_restore_18 : decode cX8_restore 18 = .ok (.invokevirtual 57, 3) := by decide +kernel
theorem dX8_restore_21 : decode cX8_restore 21 = .ok (.aload_n 0, 1) := by decide +kernel
theorem dX8_restore_22 : decode cX8_restore 22 = .ok (.getfield 10, 3) := by decide +kernel
theorem dX8_restore_25 : decode cX8_restore 25 = .ok (.aload_n 0, 1) := by decide +kernel
theorem dX8_restore_26 : decode cX8_restore 26 = .ok (.getfield 19, 3) := by decide +kernel
theorem dX8_restore_29 : decode cX8_restore 29 = .ok (.invokevirtual 158, 3) := by decide +kernel
theorem dX8_restore_32 : decode cX8_restore 32 = .ok (.aload_n 0, 1) := by decide +kernel
theorem dX8_restore_33 : decode cX8_restore 33 = .ok (.getfield 10, 3) := by decide +kernel
theorem dX8_restore_36 : decode cX8_restore 36 = .ok (.getfield 100, 3) := by decide +kernel
theorem dX8_restore_39 : decode cX8_restore 39 = .ok (.ireturn, 1) := by decide +kernel
theorem dX8_cell_0 : decode cX8_cell 0 = .ok (.iload_n 1, 1) := by decide +kernel
theorem dX8_cell_1 : decode cX8_cell 1 = .ok (.bipush 8, 2) := by decide +kernel
theorem dX8_cell_3 : decode cX8_cell 3 = .ok (.invokestatic 43, 3) := by decide +kernel
theorem dX8_cell_6 : decode cX8_cell 6 = .ok (.ifCond .eq 12, 3) := by decide +kernel
theorem dX8_cell_9 : decode cX8_cell 9 = .ok (.iload_n 2, 1) := by decide +kernel
theorem dX8_cell_10 : decode cX8_cell 10 = .ok (.bipush 16, 2) := by decide +kernel
theorem dX8_cell_12 : decode cX8_cell 12 = .ok (.invokestatic 43, 3) := by decide +kernel
theorem dX8_cell_15 : decode cX8_cell 15 = .ok (.ifCond .ne 5, 3) := by decide +kernel
theorem dX8_cell_18 : decode cX8_cell 18 = .ok (.iconst (-1), 1) := by decide +kernel
theorem dX8_cell_19 : decode cX8_cell 19 = .ok (.ireturn, 1) := by decide +kernel
theorem dX8_cell_20 : decode cX8_cell 20 = .ok (.aload_n 0, 1) := by decide +kernel
theorem dX8_cell_21 : decode cX8_cell 21 = .ok (.getfield 10, 3) := by decide +kernel
theorem dX8_cell_24 : decode cX8_cell 24 = .ok (.getfield 47, 3) := by decide +kernel
theorem dX8_cell_27 : decode cX8_cell 27 = .ok (.iload_n 1, 1) := by decide +kernel
theorem dX8_cell_28 : decode cX8_cell 28 = .ok (.iload_n 2, 1) := by decide +kernel
theorem dX8_cell_29 : decode cX8_cell 29 = .ok (.invokevirtual 51, 3) := by decide +kernel
theorem dX8_cell_32 : decode cX8_cell 32 = .ok (.ireturn, 1) := by decide +kernel
theorem dX8_address_0 : decode cX8_address 0 = .ok (.iload_n 1, 1) := by decide +kernel
theorem dX8_address_1 : decode cX8_address 1 = .ok (.bipush 64, 2) := by decide +kernel
theorem dX8_address_3 : decode cX8_address 3 = .ok (.invokestatic 43, 3) := by decide +kernel
theorem dX8_address_6 : decode cX8_address 6 = .ok (.ifCond .ne 5, 3) := by decide +kernel
theorem dX8_address_9 : decode cX8_address 9 = .ok (.iconst (-1), 1) := by decide +kernel
theorem dX8_address_10 : decode cX8_address 10 = .ok (.ireturn, 1) := by decide +kernel
theorem dX8_address_11 : decode cX8_address 11 = .ok (.iload_n 2, 1) := by decide +kernel
theorem dX8_address_12 : decode cX8_address 12 = .ok (.tableswitch 73 0 3 #[32, 44, 56, 61], 32) := by decide +kernel
theorem dX8_address_44 : decode cX8_address 44 = .ok (.aload_n 0, 1) := by decide +kernel
theorem dX8_address_45 : decode cX8_address 45 = .ok (.getfield 10, 3) := by decide +kernel
theorem dX8_address_48 : decode cX8_address 48 = .ok (.getfield 47, 3) := by decide +kernel
theorem dX8_address_51 : decode cX8_address 51 = .ok (.iload_n 1, 1) := by decide +kernel
theorem dX8_address_52 : decode cX8_address 52 = .ok (.invokevirtual 164, 3) := by decide +kernel
theorem dX8_address_55 : decode cX8_address 55 = .ok (.ireturn, 1) := by decide +kernel
theorem dX8_address_56 : decode cX8_address 56 = .ok (.aload_n 0, 1) := by decide +kernel
theorem dX8_address_57 : decode cX8_address 57 = .ok (.getfield 10, 3) := by decide +kernel
theorem dX8_address_60 : decode cX8_address 60 = .ok (.getfield 47, 3) := by decide +kernel
theorem dX8_address_63 : decode cX8_address 63 = .ok (.iload_n 1, 1) := by decide +kernel
theorem dX8_address_64 : decode cX8_address 64 = .ok (.invokevirtual 167, 3) := by decide +kernel
theorem dX8_address_67 : decode cX8_address 67 = .ok (.ireturn, 1) := by decide +kernel
theorem dX8_address_68 : decode cX8_address 68 = .ok (.iload_n 1, 1) := by decide +kernel
theorem dX8_address_69 : decode cX8_address 69 = .ok (.bipush 16, 2) := by decide +kernel
theorem dX8_address_71 : decode cX8_address 71 = .ok (.irem, 1) := by decide +kernel
theorem dX8_address_72 : decode cX8_address 72 = .ok (.ireturn, 1) := by decide +kernel
theorem dX8_address_73 : decode cX8_address 73 = .ok (.aload_n 0, 1) := by decide +kernel
theorem dX8_address_74 : decode cX8_address 74 = .ok (.getfield 10, 3) := by decide +kernel
theorem dX8_address_77 : decode cX8_address 77 = .ok (.getfield 47, 3) := by decide +kernel
theorem dX8_address_80 : decode cX8_address 80 = .ok (.iload_n 1, 1) := by decide +kernel
theorem dX8_address_81 : decode cX8_address 81 = .ok (.invokevirtual 170, 3) := by decide +kernel
theorem dX8_address_84 : decode cX8_address 84 = .ok (.ireturn, 1) := by decide +kernel
theorem dX8_address_85 : decode cX8_address 85 = .ok (.bipush (-2), 2) := by decide +kernel
theorem dX8_address_87 : decode cX8_address 87 = .ok (.ireturn, 1) := by decide +kernel
theorem dX8_bank_0 : decode cX8_bank 0 = .ok (.iload_n 1, 1) := by decide +kernel
theorem dX8_bank_1 : decode cX8_bank 1 = .ok (.bipush 8, 2) := by decide +kernel
theorem dX8_bank_3 : decode cX8_bank 3 = .ok (.invokestatic 43, 3) := by decide +kernel
theorem dX8_bank_6 : decode cX8_bank 6 = .ok (.ifCond .ne 5, 3) := by decide +kernel
theorem dX8_bank_9 : decode cX8_bank 9 = .ok (.iconst (-1), 1) := by decide +kernel
theorem dX8_bank_10 : decode cX8_bank 10 = .ok (.ireturn, 1) := by decide +kernel
theorem dX8_bank_11 : decode cX8_bank 11 = .ok (.iload_n 2, 1) := by decide +kernel
theorem dX8_bank_12 : decode cX8_bank 12 = .ok (.tableswitch 121 0 5 #[40, 55, 67, 79, 91, 106], 40) := by decide +kernel
theorem dX8_bank_52 : decode cX8_bank 52 = .ok (.aload_n 0, 1) := by decide +kernel
theorem dX8_bank_53 : decode cX8_bank 53 = .ok (.getfield 10, 3) := by decide +kernel
theorem dX8_bank_56 : decode cX8_bank 56 = .ok (.getfield 47, 3) := by decide +kernel
theorem dX8_bank_59 : decode cX8_bank 59 = .ok (.getfield 69, 3) := by decide +kernel
theorem dX8_bank_62 : decode cX8_bank 62 = .ok (.iload_n 1, 1) := by decide +kernel
theorem dX8_bank_63 : decode cX8_bank 63 = .ok (.invokevirtual 86, 3) := by decide +kernel
theorem dX8_bank_66 : decode cX8_bank 66 = .ok (.ireturn, 1) := by decide +kernel
theorem dX8_bank_67 : decode cX8_bank 67 = .ok (.aload_n 0, 1) := by decide +kernel
theorem dX8_bank_68 : decode cX8_bank 68 = .ok (.getfield 10, 3) := by decide +kernel
theorem dX8_bank_71 : decode cX8_bank 71 = .ok (.getfield 47, 3) := by decide +kernel
theorem dX8_bank_74 : decode cX8_bank 74 = .ok (.iload_n 1, 1) := by decide +kernel
theorem dX8_bank_75 : decode cX8_bank 75 = .ok (.invokevirtual 173, 3) := by decide +kernel
theorem dX8_bank_78 : decode cX8_bank 78 = .ok (.ireturn, 1) := by decide +kernel
theorem dX8_bank_79 : decode cX8_bank 79 = .ok (.aload_n 0, 1) := by decide +kernel
theorem dX8_bank_80 : decode cX8_bank 80 = .ok (.getfield 10, 3) := by decide +kernel
theorem dX8_bank_83 : decode cX8_bank 83 = .ok (.getfield 47, 3) := by decide +kernel
theorem dX8_bank_86 : decode cX8_bank 86 = .ok (.iload_n 1, 1) := by decide +kernel
theorem dX8_bank_87 : decode cX8_bank 87 = .ok (.invokevirtual 176, 3) := by decide +kernel
theorem dX8_bank_90 : decode cX8_bank 90 = .ok (.ireturn, 1) := by decide +kernel
theorem dX8_bank_91 : decode cX8_bank 91 = .ok (.aload_n 0, 1) := by decide +kernel
theorem dX8_bank_92 : decode cX8_bank 92 = .ok (.getfield 10, 3) := by decide +kernel
theorem dX8_bank_95 : decode cX8_bank 95 = .ok (.getfield 179, 3) := by decide +kernel
theorem dX8_bank_98 : decode cX8_bank 98 = .ok (.iload_n 1, 1) := by decide +kernel
theorem dX8_bank_99 : decode cX8_bank 99 = .ok (.invokevirtual 183, 3) := by decide +kernel
theorem dX8_bank_102 : decode cX8_bank 102 = .ok (.ireturn, 1) := by decide +kernel
theorem dX8_bank_103 : decode cX8_bank 103 = .ok (.aload_n 0, 1) := by decide +kernel
theorem dX8_bank_104 : decode cX8_bank 104 = .ok (.getfield 10, 3) := by decide +kernel
theorem dX8_bank_107 : decode cX8_bank 107 = .ok (.getfield 47, 3) := by decide +kernel
theorem dX8_bank_110 : decode cX8_bank 110 = .ok (.getfield 188, 3) := by decide +kernel
theorem dX8_bank_113 : decode cX8_bank 113 = .ok (.iload_n 1, 1) := by decide +kernel
theorem dX8_bank_114 : decode cX8_bank 114 = .ok (.invokevirtual 86, 3) := by decide +kernel
theorem dX8_bank_117 : decode cX8_bank 117 = .ok (.ireturn, 1) := by decide +kernel
theorem dX8_bank_118 : decode cX8_bank 118 = .ok (.aload_n 0, 1) := by decide +kernel
theorem dX8_bank_119 : decode cX8_bank 119 = .ok (.getfield 10, 3) := by decide +kernel
theorem dX8_bank_122 : decode cX8_bank 122 = .ok (.getfield 47, 3) := by decide +kernel
theorem dX8_bank_125 : decode cX8_bank 125 = .ok (.getfield 191, 3) := by decide +kernel
theorem dX8_bank_128 : decode cX8_bank 128 = .ok (.iload_n 1, 1) := by decide +kernel
theorem dX8_bank_129 : decode cX8_bank 129 = .ok (.invokevirtual 86, 3) := by decide +kernel
theorem dX8_bank_132 : decode cX8_bank 132 = .ok (.ireturn, 1) := by decide +kernel
theorem dX8_bank_133 : decode cX8_bank 133 = .ok (.bipush (-2), 2) := by decide +kernel
theorem dX8_bank_135 : decode cX8_bank 135 = .ok (.ireturn, 1) := by decide +kernel
theorem dX8_window_0 : decode cX8_window 0 = .ok (.iload_n 1, 1) := by decide +kernel
theorem dX8_window_1 : decode cX8_window 1 = .ok (.iconst 4, 1) := by decide +kernel
theorem dX8_window_2 : decode cX8_window 2 = .ok (.invokestatic 43, 3) := by decide +kernel
theorem dX8_window_5 : decode cX8_window 5 = .ok (.ifCond .eq 20, 3) := by decide +kernel
theorem dX8_window_8 : decode cX8_window 8 = .ok (.aload_n 0, 1) := by decide +kernel
theorem dX8_window_9 : decode cX8_window 9 = .ok (.getfield 10, 3) := by decide +kernel
theorem dX8_window_12 : decode cX8_window 12 = .ok (.getfield 47, 3) := by decide +kernel
theorem dX8_window_15 : decode cX8_window 15 = .ok (.getfield 83, 3) := by decide +kernel
theorem dX8_window_18 : decode cX8_window 18 = .ok (.iload_n 1, 1) := by decide +kernel
theorem dX8_window_19 : decode cX8_window 19 = .ok (.invokevirtual 86, 3) := by decide +kernel
theorem dX8_window_22 : decode cX8_window 22 = .ok (.goto 4, 3) := by decide +kernel
theorem dX8_window_25 : decode cX8_window 25 = .ok (.iconst (-1), 1) := by decide +kernel
theorem dX8_window_26 : decode cX8_window 26 = .ok (.ireturn, 1) := by decide +kernel
theorem dX8_frame_0 : decode cX8_frame 0 = .ok (.iload_n 1, 1) := by decide +kernel
theorem dX8_frame_1 : decode cX8_frame 1 = .ok (.ifCond .lt 11, 3) := by decide +kernel
theorem dX8_frame_4 : decode cX8_frame 4 = .ok (.iload_n 2, 1) := by decide +kernel
theorem dX8_frame_5 : decode cX8_frame 5 = .ok (.iconst 3, 1) := by decide +kernel
theorem dX8_frame_6 : decode cX8_frame 6 = .ok (.invokestatic 43, 3) := by decide +kernel
theorem dX8_frame_9 : decode cX8_frame 9 = .ok (.ifCond .ne 6, 3) := by decide +kernel
theorem dX8_frame_12 : decode cX8_frame 12 = .ok (.bipush (-2), 2) := by decide +kernel
theorem dX8_frame_14 : decode cX8_frame 14 = .ok (.ireturn, 1) := by decide +kernel
theorem dX8_frame_15 : decode cX8_frame 15 = .ok (.iload_n 1, 1) := by decide +kernel
theorem dX8_frame_16 : decode cX8_frame 16 = .ok (.aload_n 0, 1) := by decide +kernel
theorem dX8_frame_17 : decode cX8_frame 17 = .ok (.getfield 10, 3) := by decide +kernel
theorem dX8_frame_20 : decode cX8_frame 20 = .ok (.getfield 179, 3) := by decide +kernel
theorem dX8_frame_23 : decode cX8_frame 23 = .ok (.getfield 194, 3) := by decide +kernel
theorem dX8_frame_26 : decode cX8_frame 26 = .ok (.if_icmp .lt 6, 3) := by decide +kernel
theorem dX8_frame_29 : decode cX8_frame 29 = .ok (.bipush (-5), 2) := by decide +kernel
theorem dX8_frame_31 : decode cX8_frame 31 = .ok (.ireturn, 1) := by decide +kernel
theorem dX8_frame_32 : decode cX8_frame 32 = .ok (.aload_n 0, 1) := by decide +kernel
theorem dX8_frame_33 : decode cX8_frame 33 = .ok (.getfield 10, 3) := by decide +kernel
theorem dX8_frame_36 : decode cX8_frame 36 = .ok (.getfield 179, 3) := by decide +kernel
theorem dX8_frame_39 : decode cX8_frame 39 = .ok (.iload_n 1, 1) := by decide +kernel
theorem dX8_frame_40 : decode cX8_frame 40 = .ok (.iload_n 2, 1) := by decide +kernel
theorem dX8_frame_41 : decode cX8_frame 41 = .ok (.invokevirtual 195, 3) := by decide +kernel
theorem dX8_frame_44 : decode cX8_frame 44 = .ok (.ireturn, 1) := by decide +kernel
theorem dX8_latest_0 : decode cX8_latest 0 = .ok (.iload_n 1, 1) := by decide +kernel
theorem dX8_latest_1 : decode cX8_latest 1 = .ok (.ifCond .lt 11, 3) := by decide +kernel
theorem dX8_latest_4 : decode cX8_latest 4 = .ok (.iload_n 2, 1) := by decide +kernel
theorem dX8_latest_5 : decode cX8_latest 5 = .ok (.iconst 3, 1) := by decide +kernel
theorem dX8_latest_6 : decode cX8_latest 6 = .ok (.invokestatic 43, 3) := by decide +kernel
theorem dX8_latest_9 : decode cX8_latest 9 = .ok (.ifCond .ne 6, 3) := by decide +kernel
theorem dX8_latest_12 : decode cX8_latest 12 = .ok (.bipush (-2), 2) := by decide +kernel
theorem dX8_latest_14 : decode cX8_latest 14 = .ok (.ireturn, 1) := by decide +kernel
theorem dX8_latest_15 : decode cX8_latest 15 = .ok (.iload_n 1, 1) := by decide +kernel
theorem dX8_latest_16 : decode cX8_latest 16 = .ok (.aload_n 0, 1) := by decide +kernel
theorem dX8_latest_17 : decode cX8_latest 17 = .ok (.getfield 10, 3) := by decide +kernel
theorem dX8_latest_20 : decode cX8_latest 20 = .ok (.getfield 113, 3) := by decide +kernel
theorem dX8_latest_23 : decode cX8_latest 23 = .ok (.getfield 117, 3) := by decide +kernel
theorem dX8_latest_26 : decode cX8_latest 26 = .ok (.bipush 12, 2) := by decide +kernel
theorem dX8_latest_28 : decode cX8_latest 28 = .ok (.invokestatic 198, 3) := by decide +kernel
theorem dX8_latest_31 : decode cX8_latest 31 = .ok (.if_icmp .lt 6, 3) := by decide +kernel
theorem dX8_latest_34 : decode cX8_latest 34 = .ok (.bipush (-5), 2) := by decide +kernel
theorem dX8_latest_36 : decode cX8_latest 36 = .ok (.ireturn, 1) := by decide +kernel
theorem dX8_latest_37 : decode cX8_latest 37 = .ok (.aload_n 0, 1) := by decide +kernel
theorem dX8_latest_38 : decode cX8_latest 38 = .ok (.getfield 10, 3) := by decide +kernel
theorem dX8_latest_41 : decode cX8_latest 41 = .ok (.getfield 113, 3) := by decide +kernel
theorem dX8_latest_44 : decode cX8_latest 44 = .ok (.iload_n 1, 1) := by decide +kernel
theorem dX8_latest_45 : decode cX8_latest 45 = .ok (.iload_n 2, 1) := by decide +kernel
theorem dX8_latest_46 : decode cX8_latest 46 = .ok (.invokevirtual 203, 3) := by decide +kernel
theorem dX8_latest_49 : decode cX8_latest 49 = .ok (.ireturn, 1) := by decide +kernel
theorem dX8_next_0 : decode cX8_next 0 = .ok (.iload_n 1, 1) := by decide +kernel
theorem dX8_next_1 : decode cX8_next 1 = .ok (.iconst 3, 1) := by decide +kernel
theorem dX8_next_2 : decode cX8_next 2 = .ok (.invokestatic 43, 3) := by decide +kernel
theorem dX8_next_5 : decode cX8_next 5 = .ok (.ifCond .ne 6, 3) := by decide +kernel
theorem dX8_next_8 : decode cX8_next 8 = .ok (.bipush (-2), 2) := by decide +kernel
theorem dX8_next_10 : decode cX8_next 10 = .ok (.ireturn, 1) := by decide +kernel
theorem dX8_next_11 : decode cX8_next 11 = .ok (.aload_n 0, 1) := by decide +kernel
theorem dX8_next_12 : decode cX8_next 12 = .ok (.getfield 10, 3) := by decide +kernel
theorem dX8_next_15 : decode cX8_next 15 = .ok (.getfield 110, 3) := by decide +kernel
theorem dX8_next_18 : decode cX8_next 18 = .ok (.ifCond .eq 6, 3) := by decide +kernel
theorem dX8_next_21 : decode cX8_next 21 = .ok (.bipush (-5), 2) := by decide +kernel
theorem dX8_next_23 : decode cX8_next 23 = .ok (.ireturn, 1) := by decide +kernel
theorem dX8_next_24 : decode cX8_next 24 = .ok (.iload_n 1, 1) := by decide +kernel
theorem dX8_next_25 : decode cX8_next 25 = .ok (.ifCond .ne 21, 3) := by decide +kernel
theorem dX8_next_28 : decode cX8_next 28 = .ok (.aload_n 0, 1) := by decide +kernel
theorem dX8_next_29 : decode cX8_next 29 = .ok (.getfield 10, 3) := by decide +kernel
theorem dX8_next_32 : decode cX8_next 32 = .ok (.getfield 47, 3) := by decide +kernel
theorem dX8_next_35 : decode cX8_next 35 = .ok (.aload_n 0, 1) := by decide +kernel
theorem dX8_next_36 : decode cX8_next 36 = .ok (.getfield 10, 3) := by decide +kernel
theorem dX8_next_39 : decode cX8_next 39 = .ok (.getfield 100, 3) := by decide +kernel
theorem dX8_next_42 : decode cX8_next 42 = .ok (.invokevirtual 164, 3) := by decide +kernel
theorem dX8_next_45 : decode cX8_next 45 = .ok (.ireturn, 1) := by decide +kernel
theorem dX8_next_46 : decode cX8_next 46 = .ok (.aload_n 0, 1) := by decide +kernel
theorem dX8_next_47 : decode cX8_next 47 = .ok (.getfield 16, 3) := by decide +kernel
theorem dX8_next_50 : decode cX8_next 50 = .ok (.aload_n 0, 1) := by decide +kernel
theorem dX8_next_51 : decode cX8_next 51 = .ok (.getfield 10, 3) := by decide +kernel
theorem dX8_next_54 : decode cX8_next 54 = .ok (.invokevirtual 158, 3) := by decide +kernel
theorem dX8_next_57 : decode cX8_next 57 = .ok (.aload_n 0, 1) := by decide +kernel
theorem dX8_next_58 : decode cX8_next 58 = .ok (.getfield 16, 3) := by decide +kernel
theorem dX8_next_61 : decode cX8_next 61 = .ok (.invokevirtual 204, 3) := by decide +kernel
theorem dX8_next_64 : decode cX8_next 64 = .ok (.iload_n 1, 1) := by decide +kernel
theorem dX8_next_65 : decode cX8_next 65 = .ok (.iconst 1, 1) := by decide +kernel
theorem dX8_next_66 : decode cX8_next 66 = .ok (.if_icmp .ne 13, 3) := by decide +kernel
theorem dX8_next_69 : decode cX8_next 69 = .ok (.aload_n 0, 1) := by decide +kernel
theorem dX8_next_70 : decode cX8_next 70 = .ok (.getfield 16, 3) := by decide +kernel
theorem dX8_next_73 : decode cX8_next 73 = .ok (.getfield 110, 3) := by decide +kernel
theorem dX8_next_76 : decode cX8_next 76 = .ok (.goto 10, 3) := by decide +kernel
theorem dX8_next_79 : decode cX8_next 79 = .ok (.aload_n 0, 1) := by decide +kernel
theorem dX8_next_80 : decode cX8_next 80 = .ok (.getfield 16, 3) := by decide +kernel
theorem dX8_next_83 : decode cX8_next 83 = .ok (.getfield 100, 3) := by decide +kernel
theorem dX8_next_86 : decode cX8_next 86 = .ok (.ireturn, 1) := by decide +kernel
theorem dX8_ifRun_0 : decode cX8_ifRun 0 = .ok (.iload_n 1, 1) := by decide +kernel
theorem dX8_ifRun_1 : decode cX8_ifRun 1 = .ok (.invokestatic 107, 3) := by decide +kernel
theorem dX8_ifRun_4 : decode cX8_ifRun 4 = .ok (.ifCond .eq 11, 3) := by decide +kernel
theorem dX8_ifRun_7 : decode cX8_ifRun 7 = .ok (.iload_n 2, 1) := by decide +kernel
theorem dX8_ifRun_8 : decode cX8_ifRun 8 = .ok (.iconst 5, 1) := by decide +kernel
theorem dX8_ifRun_9 : decode cX8_ifRun 9 = .ok (.invokestatic 43, 3) := by decide +kernel
theorem dX8_ifRun_12 : decode cX8_ifRun 12 = .ok (.ifCond .ne 6, 3) := by decide +kernel
theorem dX8_ifRun_15 : decode cX8_ifRun 15 = .ok (.bipush (-2), 2) := by decide +kernel
theorem dX8_ifRun_17 : decode cX8_ifRun 17 = .ok (.ireturn, 1) := by decide +kernel
theorem dX8_ifRun_18 : decode cX8_ifRun 18 = .ok (.aload_n 0, 1) := by decide +kernel
theorem dX8_ifRun_19 : decode cX8_ifRun 19 = .ok (.getfield 10, 3) := by decide +kernel
theorem dX8_ifRun_22 : decode cX8_ifRun 22 = .ok (.getfield 110, 3) := by decide +kernel
theorem dX8_ifRun_25 : decode cX8_ifRun 25 = .ok (.ifCond .eq 6, 3) := by decide +kernel
theorem dX8_ifRun_28 : decode cX8_ifRun 28 = .ok (.bipush (-4), 2) := by decide +kernel
theorem dX8_ifRun_30 : decode cX8_ifRun 30 = .ok (.ireturn, 1) := by decide +kernel
theorem dX8_ifRun_31 : decode cX8_ifRun 31 = .ok (.aload_n 0, 1) := by decide +kernel
theorem dX8_ifRun_32 : decode cX8_ifRun 32 = .ok (.getfield 16, 3) := by decide +kernel
theorem dX8_ifRun_35 : decode cX8_ifRun 35 = .ok (.aload_n 0, 1) := by decide +kernel
theorem dX8_ifRun_36 : decode cX8_ifRun 36 = .ok (.getfield 10, 3) := by decide +kernel
theorem dX8_ifRun_39 : decode cX8_ifRun 39 = .ok (.invokevirtual 158, 3) := by decide +kernel
theorem dX8_ifRun_42 : decode cX8_ifRun 42 = .ok (.aload_n 0, 1) := by decide +kernel
theorem dX8_ifRun_43 : decode cX8_ifRun 43 = .ok (.getfield 16, 3) := by decide +kernel
theorem dX8_ifRun_46 : decode cX8_ifRun 46 = .ok (.iload_n 1, 1) := by decide +kernel
theorem dX8_ifRun_47 : decode cX8_ifRun 47 = .ok (.invokevirtual 123, 3) := by decide +kernel
theorem dX8_ifRun_50 : decode cX8_ifRun 50 = .ok (.istore_n 3, 1) := by decide +kernel
theorem dX8_ifRun_51 : decode cX8_ifRun 51 = .ok (.iload_n 2, 1) := by decide +kernel
theorem dX8_ifRun_52 : decode cX8_ifRun 52 = .ok (.tableswitch 61 0 3 #[32, 34, 42, 50], 32) := by decide +kernel
theorem dX8_ifRun_84 : decode cX8_ifRun 84 = .ok (.iload_n 3, 1) := by decide +kernel
theorem dX8_ifRun_85 : decode cX8_ifRun 85 = .ok (.ireturn, 1) := by decide +kernel
theorem dX8_ifRun_86 : decode cX8_ifRun 86 = .ok (.aload_n 0, 1) := by decide +kernel
theorem dX8_ifRun_87 : decode cX8_ifRun 87 = .ok (.getfield 16, 3) := by decide +kernel
theorem dX8_ifRun_90 : decode cX8_ifRun 90 = .ok (.getfield 110, 3) := by decide +kernel
theorem dX8_ifRun_93 : decode cX8_ifRun 93 = .ok (.ireturn, 1) := by decide +kernel
theorem dX8_ifRun_94 : decode cX8_ifRun 94 = .ok (.aload_n 0, 1) := by decide +kernel
theorem dX8_ifRun_95 : decode cX8_ifRun 95 = .ok (.getfield 16, 3) := by decide +kernel
theorem dX8_ifRun_98 : decode cX8_ifRun 98 = .ok (.getfield 207, 3) := by decide +kernel
theorem dX8_ifRun_101 : decode cX8_ifRun 101 = .ok (.ireturn, 1) := by decide +kernel
theorem dX8_ifRun_102 : decode cX8_ifRun 102 = .ok (.aload_n 0, 1) := by decide +kernel
theorem dX8_ifRun_103 : decode cX8_ifRun 103 = .ok (.getfield 16, 3) := by decide +kernel
theorem dX8_ifRun_106 : decode cX8_ifRun 106 = .ok (.getfield 179, 3) := by decide +kernel
theorem dX8_ifRun_109 : decode cX8_ifRun 109 = .ok (.getfield 194, 3) := by decide +kernel
theorem dX8_ifRun_112 : decode cX8_ifRun 112 = .ok (.ireturn, 1) := by decide +kernel
theorem dX8_ifRun_113 : decode cX8_ifRun 113 = .ok (.aload_n 0, 1) := by decide +kernel
theorem dX8_ifRun_114 : decode cX8_ifRun 114 = .ok (.getfield 16, 3) := by decide +kernel
theorem dX8_ifRun_117 : decode cX8_ifRun 117 = .ok (.getfield 47, 3) := by decide +kernel
theorem dX8_ifRun_120 : decode cX8_ifRun 120 = .ok (.getfield 210, 3) := by decide +kernel
theorem dX8_ifRun_123 : decode cX8_ifRun 123 = .ok (.aload_n 0, 1) := by decide +kernel
theorem dX8_ifRun_124 : decode cX8_ifRun 124 = .ok (.getfield 10, 3) := by decide +kernel
theorem dX8_ifRun_127 : decode cX8_ifRun 127 = .ok (.getfield 47, 3) := by decide +kernel
theorem dX8_ifRun_130 : decode cX8_ifRun 130 = .ok (.getfield 210, 3) := by decide +kernel
theorem dX8_ifRun_133 : decode cX8_ifRun 133 = .ok (.invokevirtual 213, 3) := by decide +kernel
theorem dX8_ifRun_136 : decode cX8_ifRun 136 = .ok (.ireturn, 1) := by decide +kernel
theorem dX8_backIn_0 : decode cX8_backIn 0 = .ok (.aload_n 0, 1) := by decide +kernel
theorem dX8_backIn_1 : decode cX8_backIn 1 = .ok (.getfield 10, 3) := by decide +kernel
theorem dX8_backIn_4 : decode cX8_backIn 4 = .ok (.getfield 179, 3) := by decide +kernel
theorem dX8_backIn_7 : decode cX8_backIn 7 = .ok (.getfield 194, 3) := by decide +kernel
theorem dX8_backIn_10 : decode cX8_backIn 10 = .ok (.istore_n 1, 1) := by decide +kernel
theorem dX8_backIn_11 : decode cX8_backIn 11 = .ok (.iload_n 1, 1) := by decide +kernel
theorem dX8_backIn_12 : decode cX8_backIn 12 = .ok (.ifCond .ne 6, 3) := by decide +kernel
theorem dX8_backIn_15 : decode cX8_backIn 15 = .ok (.bipush (-5), 2) := by decide +kernel
theorem dX8_backIn_17 : decode cX8_backIn 17 = .ok (.ireturn, 1) := by decide +kernel
theorem dX8_backIn_18 : decode cX8_backIn 18 = .ok (.aload_n 0, 1) := by decide +kernel
theorem dX8_backIn_19 : decode cX8_backIn 19 = .ok (.getfield 16, 3) := by decide +kernel
theorem dX8_backIn_22 : decode cX8_backIn 22 = .ok (.aload_n 0, 1) := by decide +kernel
theorem dX8_backIn_23 : decode cX8_backIn 23 = .ok (.getfield 10, 3) := by decide +kernel
theorem dX8_backIn_26 : decode cX8_backIn 26 = .ok (.invokevirtual 158, 3) := by decide +kernel
theorem dX8_backIn_29 : decode cX8_backIn 29 = .ok (.iconst 1, 1) := by decide +kernel
theorem dX8_backIn_30 : decode cX8_backIn 30 = .ok (.istore_n 2, 1) := by decide +kernel
theorem dX8_backIn_31 : decode cX8_backIn 31 = .ok (.iload_n 2, 1) := by decide +kernel
theorem dX8_backIn_32 : decode cX8_backIn 32 = .ok (.sipush 500, 3) := by decide +kernel
theorem dX8_backIn_35 : decode cX8_backIn 35 = .ok (.if_icmp .gt 42, 3) := by decide +kernel
theorem dX8_backIn_38 : decode cX8_backIn 38 = .ok (.aload_n 0, 1) := by decide +kernel
theorem dX8_backIn_39 : decode cX8_backIn 39 = .ok (.getfield 16, 3) := by decide +kernel
theorem dX8_backIn_42 : decode cX8_backIn 42 = .ok (.getfield 110, 3) := by decide +kernel
theorem dX8_backIn_45 : decode cX8_backIn 45 = .ok (.ifCond .ne 32, 3) := by decide +kernel
theorem dX8_backIn_48 : decode cX8_backIn 48 = .ok (.aload_n 0, 1) := by decide +kernel
theorem dX8_backIn_49 : decode cX8_backIn 49 = .ok (.getfield 16, 3) := by decide +kernel
theorem dX8_backIn_52 : decode cX8_backIn 52 = .ok (.invokevirtual 204, 3) := by decide +kernel
theorem dX8_backIn_55 : decode cX8_backIn 55 = .ok (.aload_n 0, 1) := by decide +kernel
theorem dX8_backIn_56 : decode cX8_backIn 56 = .ok (.getfield 16, 3) := by decide +kernel
theorem dX8_backIn_59 : decode cX8_backIn 59 = .ok (.getfield 179, 3) := by decide +kernel
theorem dX8_backIn_62 : decode cX8_backIn 62 = .ok (.getfield 194, 3) := by decide +kernel
theorem dX8_backIn_65 : decode cX8_backIn 65 = .ok (.iload_n 1, 1) := by decide +kernel
theorem dX8_backIn_66 : decode cX8_backIn 66 = .ok (.if_icmp .ge 5, 3) := by decide +kernel
theorem dX8_backIn_69 : decode cX8_backIn 69 = .ok (.iload_n 2, 1) := by decide +kernel
theorem dX8_backIn_70 : decode cX8_backIn 70 = .ok (.ireturn, 1) := by decide +kernel
theorem dX8_backIn_71 : decode cX8_backIn 71 = .ok (.iinc 2 1, 3) := by decide +kernel
theorem dX8_backIn_74 : decode cX8_backIn 74 = .ok (.goto (-43), 3) := by decide +kernel
theorem dX8_backIn_77 : decode cX8_backIn 77 = .ok (.bipush (-5), 2) := by decide +kernel
theorem dX8_backIn_79 : decode cX8_backIn 79 = .ok (.ireturn, 1) := by decide +kernel
theorem dX8_count_0 : decode cX8_count 0 = .ok (.iload_n 1, 1) := by decide +kernel
theorem dX8_count_1 : decode cX8_count 1 = .ok (.tableswitch 183 0 11 #[63, 71, 79, 90, 98, 109, 117, 131, 145, 159, 167, 175], 63) := by decide +kernel
theorem dX8_count_64 : decode cX8_count 64 = .ok (.aload_n 0, 1) := by decide +kernel
theorem dX8_count_65 : decode cX8_count 65 = .ok (.getfield 10, 3) := by decide +kernel
theorem dX8_count_68 : decode cX8_count 68 = .ok (.getfield 207, 3) := by decide +kernel
theorem dX8_count_71 : decode cX8_count 71 = .ok (.ireturn, 1) := by decide +kernel
theorem dX8_count_72 : decode cX8_count 72 = .ok (.aload_n 0, 1) := by decide +kernel
theorem dX8_count_73 : decode cX8_count 73 = .ok (.getfield 10, 3) := by decide +kernel
theorem dX8_count_76 : decode cX8_count 76 = .ok (.getfield 100, 3) := by decide +kernel
theorem dX8_count_79 : decode cX8_count 79 = .ok (.ireturn, 1) := by decide +kernel
theorem dX8_count_80 : decode cX8_count 80 = .ok (.aload_n 0, 1) := by decide +kernel
theorem dX8_count_81 : decode cX8_count 81 = .ok (.getfield 10, 3) := by decide +kernel
theorem dX8_count_84 : decode cX8_count 84 = .ok (.getfield 179, 3) := by decide +kernel
theorem dX8_count_87 : decode cX8_count 87 = .ok (.getfield 194, 3) := by decide +kernel
theorem dX8_count_90 : decode cX8_count 90 = .ok (.ireturn, 1) := by decide +kernel
theorem dX8_count_91 : decode cX8_count 91 = .ok (.aload_n 0, 1) := by decide +kernel
theorem dX8_count_92 : decode cX8_count 92 = .ok (.getfield 10, 3) := by decide +kernel
theorem dX8_count_95 : decode cX8_count 95 = .ok (.getfield 110, 3) := by decide +kernel
theorem dX8_count_98 : decode cX8_count 98 = .ok (.ireturn, 1) := by decide +kernel
theorem dX8_count_99 : decode cX8_count 99 = .ok (.aload_n 0, 1) := by decide +kernel
theorem dX8_count_100 : decode cX8_count 100 = .ok (.getfield 10, 3) := by decide +kernel
theorem dX8_count_103 : decode cX8_count 103 = .ok (.getfield 113, 3) := by decide +kernel
theorem dX8_count_106 : decode cX8_count 106 = .ok (.getfield 117, 3) := by decide +kernel
theorem dX8_count_109 : decode cX8_count 109 = .ok (.ireturn, 1) := by decide +kernel
theorem dX8_count_110 : decode cX8_count 110 = .ok (.aload_n 0, 1) := by decide +kernel
theorem dX8_count_111 : decode cX8_count 111 = .ok (.getfield 10, 3) := by decide +kernel
theorem dX8_count_114 : decode cX8_count 114 = .ok (.getfield 217, 3) := by decide +kernel
theorem dX8_count_117 : decode cX8_count 117 = .ok (.ireturn, 1) := by decide +kernel
theorem dX8_count_118 : decode cX8_count 118 = .ok (.aload_n 0, 1) := by decide +kernel
theorem dX8_count_119 : decode cX8_count 119 = .ok (.getfield 10, 3) := by decide +kernel
theorem dX8_count_122 : decode cX8_count 122 = .ok (.getfield 47, 3) := by decide +kernel
theorem dX8_count_125 : decode cX8_count 125 = .ok (.getfield 188, 3) := by decide +kernel
theorem dX8_count_128 : decode cX8_count 128 = .ok (.invokevirtual 79, 3) := by decide +kernel
theorem dX8_count_131 : decode cX8_count 131 = .ok (.ireturn, 1) := by decide +kernel
theorem dX8_count_132 : decode cX8_count 132 = .ok (.aload_n 0, 1) := by decide +kernel
theorem dX8_count_133 : decode cX8_count 133 = .ok (.getfield 10, 3) := by decide +kernel
theorem dX8_count_136 : decode cX8_count 136 = .ok (.getfield 47, 3) := by decide +kernel
theorem dX8_count_139 : decode cX8_count 139 = .ok (.getfield 191, 3) := by decide +kernel
theorem dX8_count_142 : decode cX8_count 142 = .ok (.invokevirtual 79, 3) := by decide +kernel
theorem dX8_count_145 : decode cX8_count 145 = .ok (.ireturn, 1) := by decide +kernel
theorem dX8_count_146 : decode cX8_count 146 = .ok (.aload_n 0, 1) := by decide +kernel
theorem dX8_count_147 : decode cX8_count 147 = .ok (.getfield 10, 3) := by decide +kernel
theorem dX8_count_150 : decode cX8_count 150 = .ok (.getfield 47, 3) := by decide +kernel
theorem dX8_count_153 : decode cX8_count 153 = .ok (.getfield 69, 3) := by decide +kernel
theorem dX8_count_156 : decode cX8_count 156 = .ok (.invokevirtual 79, 3) := by decide +kernel
theorem dX8_count_159 : decode cX8_count 159 = .ok (.ireturn, 1) := by decide +kernel
theorem dX8_count_160 : decode cX8_count 160 = .ok (.aload_n 0, 1) := by decide +kernel
theorem dX8_count_161 : decode cX8_count 161 = .ok (.getfield 10, 3) := by decide +kernel
theorem dX8_count_164 : decode cX8_count 164 = .ok (.getfield 96, 3) := by decide +kernel
theorem dX8_count_167 : decode cX8_count 167 = .ok (.ireturn, 1) := by decide +kernel
theorem dX8_count_168 : decode cX8_count 168 = .ok (.aload_n 0, 1) := by decide +kernel
theorem dX8_count_169 : decode cX8_count 169 = .ok (.getfield 25, 3) := by decide +kernel
theorem dX8_count_172 : decode cX8_count 172 = .ok (.getfield 154, 3) := by decide +kernel
theorem dX8_count_175 : decode cX8_count 175 = .ok (.ireturn, 1) := by decide +kernel
theorem dX8_count_176 : decode cX8_count 176 = .ok (.aload_n 0, 1) := by decide +kernel
theorem dX8_count_177 : decode cX8_count 177 = .ok (.getfield 32, 3) := by decide +kernel
theorem dX8_count_180 : decode cX8_count 180 = .ok (.getfield 134, 3) := by decide +kernel
theorem dX8_count_183 : decode cX8_count 183 = .ok (.ireturn, 1) := by decide +kernel
theorem dX8_count_184 : decode cX8_count 184 = .ok (.bipush (-2), 2) := by decide +kernel
theorem dX8_count_186 : decode cX8_count 186 = .ok (.ireturn, 1) := by decide +kernel
theorem dX8_isBelow_0 : decode cX8_isBelow 0 = .ok (.iload_n 0, 1) := by decide +kernel
theorem dX8_isBelow_1 : decode cX8_isBelow 1 = .ok (.ifCond .lt 12, 3) := by decide +kernel
theorem dX8_isBelow_4 : decode cX8_isBelow 4 = .ok (.iload_n 0, 1) := by decide +kernel
theorem dX8_isBelow_5 : decode cX8_isBelow 5 = .ok (.iload_n 1, 1) := by decide +kernel
theorem dX8_isBelow_6 : decode cX8_isBelow 6 = .ok (.if_icmp .ge 7, 3) := by decide +kernel
theorem dX8_isBelow_9 : decode cX8_isBelow 9 = .ok (.iconst 1, 1) := by decide +kernel
theorem dX8_isBelow_10 : decode cX8_isBelow 10 = .ok (.goto 4, 3) := by decide +kernel
theorem dX8_isBelow_13 : decode cX8_isBelow 13 = .ok (.iconst 0, 1) := by decide +kernel
theorem dX8_isBelow_14 : decode cX8_isBelow 14 = .ok (.ireturn, 1) := by decide +kernel
theorem dX8_isStepsOfRun_0 : decode cX8_isStepsOfRun 0 = .ok (.iload_n 0, 1) := by decide +kernel
theorem dX8_isStepsOfRun_1 : decode cX8_isStepsOfRun 1 = .ok (.iconst 1, 1) := by decide +kernel
theorem dX8_isStepsOfRun_2 : decode cX8_isStepsOfRun 2 = .ok (.if_icmp .lt 14, 3) := by decide +kernel
theorem dX8_isStepsOfRun_5 : decode cX8_isStepsOfRun 5 = .ok (.iload_n 0, 1) := by decide +kernel
theorem dX8_isStepsOfRun_6 : decode cX8_isStepsOfRun 6 = .ok (.sipush 999, 3) := by decide +kernel
theorem dX8_isStepsOfRun_9 : decode cX8_isStepsOfRun 9 = .ok (.if_icmp .gt 7, 3) := by decide +kernel
theorem dX8_isStepsOfRun_12 : decode cX8_isStepsOfRun 12 = .ok (.iconst 1, 1) := by decide +kernel
theorem dX8_isStepsOfRun_13 : decode cX8_isStepsOfRun 13 = .ok (.goto 4, 3) := by decide +kernel
theorem dX8_isStepsOfRun_16 : decode cX8_isStepsOfRun 16 = .ok (.iconst 0, 1) := by decide +kernel
theorem dX8_isStepsOfRun_17 : decode cX8_isStepsOfRun 17 = .ok (.ireturn, 1) := by decide +kernel
theorem dX9_init_0 : decode cX9_init 0 = .ok (.aload_n 0, 1) := by decide +kernel
theorem dX9_init_1 : decode cX9_init 1 = .ok (.invokespecial 1, 3) := by decide +kernel
theorem dX9_init_4 : decode cX9_init 4 = .ok (.aload_n 0, 1) := by decide +kernel
theorem dX9_init_5 : decode cX9_init 5 = .ok (.sipush 198, 3) := by decide +kernel
theorem dX9_init_8 : decode cX9_init 8 = .ok (.newarray .int, 2) := by decide +kernel
theorem dX9_init_10 : decode cX9_init 10 = .ok (.putfield 7, 3) := by decide +kernel
theorem dX9_init_13 : decode cX9_init 13 = .ok (.aload_n 0, 1) := by decide +kernel
theorem dX9_init_14 : decode cX9_init 14 = .ok (.sipush 198, 3) := by decide +kernel
theorem dX9_init_17 : decode cX9_init 17 = .ok (.newarray .int, 2) := by decide +kernel
theorem dX9_init_19 : decode cX9_init 19 = .ok (.putfield 13, 3) := by decide +kernel
theorem dX9_init_22 : decode cX9_init 22 = .ok (.aload_n 0, 1) := by decide +kernel
theorem dX9_init_23 : decode cX9_init 23 = .ok (.sipush 792, 3) := by decide +kernel
theorem dX9_init_26 : decode cX9_init 26 = .ok (.newarray .int, 2) := by decide +kernel
theorem dX9_init_28 : decode cX9_init 28 = .ok (.putfield 16, 3) := by decide +kernel
theorem dX9_init_31 : decode cX9_init 31 = .ok (.aload_n 0, 1) := by decide +kernel
theorem dX9_init_32 : decode cX9_init 32 = .ok (.sipush 198, 3) := by decide +kernel
theorem dX9_init_35 : decode cX9_init 35 = .ok (.newarray .int, 2) := by decide +kernel
theorem dX9_init_37 : decode cX9_init 37 = .ok (.putfield 19, 3) := by decide +kernel
theorem dX9_init_40 : decode cX9_init 40 = .ok (.aload_n 0, 1) := by decide +kernel
theorem dX9_init_41 : decode cX9_init 41 = .ok (.bipush 80, 2) := by decide +kernel
theorem dX9_init_43 : decode cX9_init 43 = .ok (.newarray .int, 2) := by decide +kernel
theorem dX9_init_45 : decode cX9_init 45 = .ok (.putfield 22, 3) := by decide +kernel
theorem dX9_init_48 : decode cX9_init 48 = .ok (.aload_n 0, 1) := by decide +kernel
theorem dX9_init_49 : decode cX9_init 49 = .ok (.bipush 16, 2) := by decide +kernel
theorem dX9_init_51 : decode cX9_init 51 = .ok (.newarray .int, 2) := by decide +kernel
theorem dX9_init_53 : decode cX9_init 53 = .ok (.putfield 25, 3) := by decide +kernel
theorem dX9_init_56 : decode cX9_init 56 = .ok (.iconst 0, 1) := by decide +kernel
theorem dX9_init_57 : decode cX9_init 57 = .ok (.istore_n 1, 1) := by decide +kernel
theorem dX9_init_58 : decode cX9_init 58 = .ok (.iload_n 1, 1) := by decide +kernel
theorem dX9_init_59 : decode cX9_init 59 = .ok (.iconst 4, 1) := by decide +kernel
theorem dX9_init_60 : decode cX9_init 60 = .ok (.if_icmp .ge 19, 3) := by decide +kernel
theorem dX9_init_63 : decode cX9_init 63 = .ok (.aload_n 0, 1) := by decide +kernel
theorem dX9_init_64 : decode cX9_init 64 = .ok (.getfield 7, 3) := by decide +kernel
theorem dX9_init_67 : decode cX9_init 67 = .ok (.bipush 100, 2) := by decide +kernel
theorem dX9_init_69 : decode cX9_init 69 = .ok (.iload_n 1, 1) := by decide +kernel
theorem dX9_init_70 : decode cX9_init 70 = .ok (.iadd, 1) := by decide +kernel
theorem dX9_init_71 : decode cX9_init 71 = .ok (.iload_n 1, 1) := by decide +kernel
theorem dX9_init_72 : decode cX9_init 72 = .ok (.iastore, 1) := by decide +kernel
theorem dX9_init_73 : decode cX9_init 73 = .ok (.iinc 1 1, 3) := by decide +kernel
theorem dX9_init_76 : decode cX9_init 76 = .ok (.goto (-18), 3) := by decide +kernel
theorem dX9_init_79 : decode cX9_init 79 = .ok (.return_, 1) := by decide +kernel
theorem dX9_in_0 : decode cX9_in 0 = .ok (.iload_n 0, 1) := by decide +kernel
theorem dX9_in_1 : decode cX9_in 1 = .ok (.iload_n 1, 1) := by decide +kernel
theorem dX9_in_2 : decode cX9_in 2 = .ok (.if_icmp .lt 12, 3) := by decide +kernel
theorem dX9_in_5 : decode cX9_in 5 = .ok (.iload_n 0, 1) := by decide +kernel
theorem dX9_in_6 : decode cX9_in 6 = .ok (.iload_n 2, 1) := by decide +kernel
theorem dX9_in_7 : decode cX9_in 7 = .ok (.if_icmp .gt 7, 3) := by decide +kernel
theorem dX9_in_10 : decode cX9_in 10 = .ok (.iconst 1, 1) := by decide +kernel
theorem dX9_in_11 : decode cX9_in 11 = .ok (.goto 4, 3) := by decide +kernel
theorem dX9_in_14 : decode cX9_in 14 = .ok (.iconst 0, 1) := by decide +kernel
theorem dX9_in_15 : decode cX9_in 15 = .ok (.ireturn, 1) := by decide +kernel
theorem dX9_isBank_0 : decode cX9_isBank 0 = .ok (.iload_n 0, 1) := by decide +kernel
theorem dX9_isBank_1 : decode cX9_isBank 1 = .ok (.iconst 0, 1) := by decide +kernel
theorem dX9_isBank_2 : decode cX9_isBank 2 = .ok (.bipush 7, 2) := by decide +kernel
theorem dX9_isBank_4 : decode cX9_isBank 4 = .ok (.invokestatic 28, 3) := by decide +kernel
theorem dX9_isBank_7 : decode cX9_isBank 7 = .ok (.ireturn, 1) := by decide +kernel
theorem dX9_isCell_0 : decode cX9_isCell 0 = .ok (.iload_n 0, 1) := by decide +kernel
theorem dX9_isCell_1 : decode cX9_isCell 1 = .ok (.iconst 0, 1) := by decide +kernel
theorem dX9_isCell_2 : decode cX9_isCell 2 = .ok (.bipush 15, 2) := by decide +kernel
theorem dX9_isCell_4 : decode cX9_isCell 4 = .ok (.invokestatic 28, 3) := by decide +kernel
theorem dX9_isCell_7 : decode cX9_isCell 7 = .ok (.ireturn, 1) := by decide +kernel
theorem dX9_isWindow_0 : decode cX9_isWindow 0 = .ok (.iload_n 0, 1) := by decide +kernel
theorem dX9_isWindow_1 : decode cX9_isWindow 1 = .ok (.iconst 0, 1) := by decide +kernel
theorem dX9_isWindow_2 : decode cX9_isWindow 2 = .ok (.iconst 3, 1) := by decide +kernel
theorem dX9_isWindow_3 : decode cX9_isWindow 3 = .ok (.invokestatic 28, 3) := by decide +kernel
theorem dX9_isWindow_6 : decode cX9_isWindow 6 = .ok (.ireturn, 1) := by decide +kernel
theorem dX9_isAddress_0 : decode cX9_isAddress 0 = .ok (.iload_n 0, 1) := by decide +kernel
theorem dX9_isAddress_1 : decode cX9_isAddress 1 = .ok (.iconst 0, 1) := by decide +kernel
theorem dX9_isAddress_2 : decode cX9_isAddress 2 = .ok (.bipush 63, 2) := by decide +kernel
theorem dX9_isAddress_4 : decode cX9_isAddress 4 = .ok (.invokestatic 28, 3) := by decide +kernel
theorem dX9_isAddress_7 : decode cX9_isAddress 7 = .ok (.ireturn, 1) := by decide +kernel
theorem dX9_index_0 : decode cX9_index 0 = .ok (.iload_n 1, 1) := by decide +kernel
theorem dX9_index_1 : decode cX9_index 1 = .ok (.bipush 12, 2) := by decide +kernel
theorem dX9_index_3 : decode cX9_index 3 = .ok (.if_icmp .ge 12, 3) := by decide +kernel
theorem dX9_index_6 : decode cX9_index 6 = .ok (.bipush 12, 2) := by decide +kernel
theorem dX9_index_8 : decode cX9_index 8 = .ok (.iload_n 0, 1) := by decide +kernel
theorem dX9_index_9 : decode cX9_index 9 = .ok (.imul, 1) := by decide +kernel
theorem dX9_index_10 : decode cX9_index 10 = .ok (.iload_n 1, 1) := by decide +kernel
theorem dX9_index_11 : decode cX9_index 11 = .ok (.iadd, 1) := by decide +kernel
theorem dX9_index_12 : decode cX9_index 12 = .ok (.goto 10, 3) := by decide +kernel
theorem dX9_index_15 : decode cX9_index 15 = .ok (.bipush 96, 2) := by decide +kernel
theorem dX9_index_17 : decode cX9_index 17 = .ok (.iload_n 1, 1) := by decide +kernel
theorem dX9_index_18 : decode cX9_index 18 = .ok (.iadd, 1) := by decide +kernel
theorem dX9_index_19 : decode cX9_index 19 = .ok (.bipush 12, 2) := by decide +kernel
theorem dX9_index_21 : decode cX9_index 21 = .ok (.isub, 1) := by decide +kernel
theorem dX9_index_22 : decode cX9_index 22 = .ok (.ireturn, 1) := by decide +kernel
theorem dX9_bankAt_0 : decode cX9_bankAt 0 = .ok (.aload_n 0, 1) := by decide +kernel
theorem dX9_bankAt_1 : decode cX9_bankAt 1 = .ok (.getfield 7, 3) := by decide +kernel
theorem dX9_bankAt_4 : decode cX9_bankAt 4 = .ok (.bipush 100, 2) := by decide +kernel
theorem dX9_bankAt_6 : decode cX9_bankAt 6 = .ok (.iload_n 1, 1) := by decide +kernel
theorem dX9_bankAt_7 : decode cX9_bankAt 7 = .ok (.bipush 16, 2) := by decide +kernel
theorem dX9_bankAt_9 : decode cX9_bankAt 9 = .ok (.idiv, 1) := by decide +kernel
theorem dX9_bankAt_10 : decode cX9_bankAt 10 = .ok (.iadd, 1) := by decide +kernel
theorem dX9_bankAt_11 : decode cX9_bankAt 11 = .ok (.iaload, 1) := by decide +kernel
theorem dX9_bankAt_12 : decode cX9_bankAt 12 = .ok (.ireturn, 1) := by decide +kernel
theorem dX9_indexAt_0 : decode cX9_indexAt 0 = .ok (.aload_n 0, 1) := by decide +kernel
theorem dX9_indexAt_1 : decode cX9_indexAt 1 = .ok (.iload_n 1, 1) := by decide +kernel
theorem dX9_indexAt_2 : decode cX9_indexAt 2 = .ok (.invokevirtual 32, 3) := by decide +kernel
theorem dX9_indexAt_5 : decode cX9_indexAt 5 = .ok (.iload_n 1, 1) := by decide +kernel
theorem dX9_indexAt_6 : decode cX9_indexAt 6 = .ok (.bipush 16, 2) := by decide +kernel
theorem dX9_indexAt_8 : decode cX9_indexAt 8 = .ok (.irem, 1) := by decide +kernel
theorem dX9_indexAt_9 : decode cX9_indexAt 9 = .ok (.invokestatic 36, 3) := by decide +kernel
theorem dX9_indexAt_12 : decode cX9_indexAt 12 = .ok (.ireturn, 1) := by decide +kernel
theorem dX9_record_0 : decode cX9_record 0 = .ok (.aload_n 0, 1) := by decide +kernel
theorem dX9_record_1 : decode cX9_record 1 = .ok (.getfield 40, 3) := by decide +kernel
theorem dX9_record_4 : decode cX9_record 4 = .ok (.iconst 4, 1) := by decide +kernel
theorem dX9_record_5 : decode cX9_record 5 = .ok (.if_icmp .ne 44, 3) := by decide +kernel
theorem dX9_record_8 : decode cX9_record 8 = .ok (.iconst 0, 1) := by decide +kernel
theorem dX9_record_9 : decode cX9_record 9 = .ok (.istore_n 1, 1) := by decide +kernel
theorem dX9_record_10 : decode cX9_record 10 = .ok (.iload_n 1, 1) := by decide +kernel
theorem dX9_record_11 : decode cX9_record 11 = .ok (.sipush 594, 3) := by decide +kernel
theorem dX9_record_14 : decode cX9_record 14 = .ok (.if_icmp .ge 25, 3) := by decide +kernel
theorem dX9_record_17 : decode cX9_record 17 = .ok (.aload_n 0, 1) := by decide +kernel
theorem dX9_record_18 : decode cX9_record 18 = .ok (.getfield 16, 3) := by decide +kernel
theorem dX9_record_21 : decode cX9_record 21 = .ok (.iload_n 1, 1) := by decide +kernel
theorem dX9_record_22 : decode cX9_record 22 = .ok (.aload_n 0, 1) := by decide +kernel
theorem dX9_record_23 : decode cX9_record 23 = .ok (.getfield 16, 3) := by decide +kernel
theorem dX9_record_26 : decode cX9_record 26 = .ok (.sipush 198, 3) := by decide +kernel
theorem dX9_record_29 : decode cX9_record 29 = .ok (.iload_n 1, 1) := by decide +kernel
theorem dX9_record_30 : decode cX9_record 30 = .ok (.iadd, 1) := by decide +kernel
theorem dX9_record_31 : decode cX9_record 31 = .ok (.iaload, 1) := by decide +kernel
theorem dX9_record_32 : decode cX9_record 32 = .ok (.iastore, 1) := by decide +kernel
theorem dX9_record_33 : decode cX9_record 33 = .ok (.iinc 1 1, 3) := by decide +kernel
theorem dX9_record_36 : decode cX9_record 36 = .ok (.goto (-26), 3) := by decide +kernel
theorem dX9_record_39 : decode cX9_record 39 = .ok (.aload_n 0, 1) := by decide +kernel
theorem dX9_record_40 : decode cX9_record 40 = .ok (.dup, 1) := by decide +kernel
theorem dX9_record_41 : decode cX9_record 41 = .ok (.getfield 40, 3) := by decide +kernel
theorem dX9_record_44 : decode cX9_record 44 = .ok (.iconst 1, 1) := by decide +kernel
theorem dX9_record_45 : decode cX9_record 45 = .ok (.isub, 1) := by decide +kernel
theorem dX9_record_46 : decode cX9_record 46 = .ok (.putfield 40, 3) := by decide +kernel
theorem dX9_record_49 : decode cX9_record 49 = .ok (.iconst 0, 1) := by decide +kernel
theorem dX9_record_50 : decode cX9_record 50 = .ok (.istore_n 1, 1) := by decide +kernel
theorem dX9_record_51 : decode cX9_record 51 = .ok (.iload_n 1, 1) := by decide +kernel
theorem dX9_record_52 : decode cX9_record 52 = .ok (.sipush 198, 3) := by decide +kernel
theorem dX9_record_55 : decode cX9_record 55 = .ok (.if_icmp .ge 30, 3) := by decide +kernel
theorem dX9_record_58 : decode cX9_record 58 = .ok (.aload_n 0, 1) := by decide +kernel
theorem dX9_record_59 : decode cX9_record 59 = .ok (.getfield 16, 3) := by decide +kernel
theorem dX9_record_62 : decode cX9_record 62 = .ok (.sipush 198, 3) := by decide +kernel
theorem dX9_record_65 : decode cX9_record 65 = .ok (.aload_n 0, 1) := by decide +kernel
theorem dX9_record_66 : decode cX9_record 66 = .ok (.getfield 40, 3) := by decide +kernel
theorem dX9_record_69 : decode cX9_record 69 = .ok (.imul, 1) := by decide +kernel
theorem dX9_record_70 : decode cX9_record 70 = .ok (.iload_n 1, 1) := by decide +kernel
theorem dX9_record_71 : decode cX9_record 71 = .ok (.iadd, 1) := by decide +kernel
theorem dX9_record_72 : decode cX9_record 72 = .ok (.aload_n 0, 1) := by decide +kernel
theorem dX9_record_73 : decode cX9_record 73 = .ok (.getfield 7, 3) := by decide +kernel
theorem dX9_record_76 : decode cX9_record 76 = .ok (.iload_n 1, 1) := by decide +kernel
theorem dX9_record_77 : decode cX9_record 77 = .ok (.iaload, 1) := by decide +kernel
theorem dX9_record_78 : decode cX9_record 78 = .ok (.iastore, 1) := by decide +kernel
theorem dX9_record_79 : decode cX9_record 79 = .ok (.iinc 1 1, 3) := by decide +kernel
theorem dX9_record_82 : decode cX9_record 82 = .ok (.goto (-31), 3) := by decide +kernel
theorem dX9_record_85 : decode cX9_record 85 = .ok (.aload_n 0, 1) := by decide +kernel
theorem dX9_record_86 : decode cX9_record 86 = .ok (.dup, 1) := by decide +kernel
theorem dX9_record_87 : decode cX9_record 87 = .ok (.getfield 40, 3) := by decide +kernel
theorem dX9_record_90 : decode cX9_record 90 = .ok (.iconst 1, 1) := by decide +kernel
theorem dX9_record_91 : decode cX9_record 91 = .ok (.iadd, 1) := by decide +kernel
theorem dX9_record_92 : decode cX9_record 92 = .ok (.putfield 40, 3) := by decide +kernel
theorem dX9_record_95 : decode cX9_record 95 = .ok (.return_, 1) := by decide +kernel
theorem dX9_undo_0 : decode cX9_undo 0 = .ok (.aload_n 0, 1) := by decide +kernel
theorem dX9_undo_1 : decode cX9_undo 1 = .ok (.getfield 40, 3) := by decide +kernel
theorem dX9_undo_4 : decode cX9_undo 4 = .ok (.ifCond .ne 6, 3) := by decide +kernel
theorem dX9_undo_7 : decode cX9_undo 7 = .ok (.bipush (-5), 2) := by decide +kernel
theorem dX9_undo_9 : decode cX9_undo 9 = .ok (.ireturn, 1) := by decide +kernel
theorem dX9_undo_10 : decode cX9_undo 10 = .ok (.aload_n 0, 1) := by decide +kernel
theorem dX9_undo_11 : decode cX9_undo 11 = .ok (.dup, 1) := by decide +kernel
theorem dX9_undo_12 : decode cX9_undo 12 = .ok (.getfield 40, 3) := by decide +kernel
theorem dX9_undo_15 : decode cX9_undo 15 = .ok (.iconst 1, 1) := by decide +kernel
theorem dX9_undo_16 : decode cX9_undo 16 = .ok (.isub, 1) := by decide +kernel
theorem dX9_undo_17 : decode cX9_undo 17 = .ok (.putfield 40, 3) := by decide +kernel
theorem dX9_undo_20 : decode cX9_undo 20 = .ok (.iconst 0, 1) := by decide +kernel
theorem dX9_undo_21 : decode cX9_undo 21 = .ok (.istore_n 1, 1) := by decide +kernel
theorem dX9_undo_22 : decode cX9_undo 22 = .ok (.iload_n 1, 1) := by decide +kernel
theorem dX9_undo_23 : decode cX9_undo 23 = .ok (.sipush 198, 3) := by decide +kernel
theorem dX9_undo_26 : decode cX9_undo 26 = .ok (.if_icmp .ge 30, 3) := by decide +kernel
theorem dX9_undo_29 : decode cX9_undo 29 = .ok (.aload_n 0, 1) := by decide +kernel
theorem dX9_undo_30 : decode cX9_undo 30 = .ok (.getfield 7, 3) := by decide +kernel
theorem dX9_undo_33 : decode cX9_undo 33 = .ok (.iload_n 1, 1) := by decide +kernel
theorem dX9_undo_34 : decode cX9_undo 34 = .ok (.aload_n 0, 1) := by decide +kernel
theorem dX9_undo_35 : decode cX9_undo 35 = .ok (.getfield 16, 3) := by decide +kernel
theorem dX9_undo_38 : decode cX9_undo 38 = .ok (.sipush 198, 3) := by decide +kernel
theorem dX9_undo_41 : decode cX9_undo 41 = .ok (.aload_n 0, 1) := by decide +kernel
theorem dX9_undo_42 : decode cX9_undo 42 = .ok (.getfield 40, 3) := by decide +kernel
theorem dX9_undo_45 : decode cX9_undo 45 = .ok (.imul, 1) := by decide +kernel
theorem dX9_undo_46 : decode cX9_undo 46 = .ok (.iload_n 1, 1) := by decide +kernel
theorem dX9_undo_47 : decode cX9_undo 47 = .ok (.iadd, 1) := by decide +kernel
theorem dX9_undo_48 : decode cX9_undo 48 = .ok (.iaload, 1) := by decide +kernel
theorem dX9_undo_49 : decode cX9_undo 49 = .ok (.iastore, 1) := by decide +kernel
theorem dX9_undo_50 : decode cX9_undo 50 = .ok (.iinc 1 1, 3) := by decide +kernel
theorem dX9_undo_53 : decode cX9_undo 53 = .ok (.goto (-31), 3) := by decide +kernel
theorem dX9_undo_56 : decode cX9_undo 56 = .ok (.aload_n 0, 1) := by decide +kernel
theorem dX9_undo_57 : decode cX9_undo 57 = .ok (.getfield 40, 3) := by decide +kernel
theorem dX9_undo_60 : decode cX9_undo 60 = .ok (.ireturn, 1) := by decide +kernel
theorem dX9_keep_0 : decode cX9_keep 0 = .ok (.iconst 0, 1) := by decide +kernel
theorem dX9_keep_1 : decode cX9_keep 1 = .ok (.istore_n 1, 1) := by decide +kernel
theorem dX9_keep_2 : decode cX9_keep 2 = .ok (.iload_n 1, 1) := by decide +kernel
theorem dX9_keep_3 : decode cX9_keep 3 = .ok (.sipush 198, 3) := by decide +kernel
theorem dX9_keep_6 : decode cX9_keep 6 = .ok (.if_icmp .ge 21, 3) := by decide +kernel
theorem dX9_keep_9 : decode cX9_keep 9 = .ok (.aload_n 0, 1) := by decide +kernel
theorem dX9_keep_10 : decode cX9_keep 10 = .ok (.getfield 19, 3) := by decide +kernel
theorem dX9_keep_13 : decode cX9_keep 13 = .ok (.iload_n 1, 1) := by decide +kernel
theorem dX9_keep_14 : decode cX9_keep 14 = .ok (.aload_n 0, 1) := by decide +kernel
theorem dX9_keep_15 : decode cX9_keep 15 = .ok (.getfield 7, 3) := by decide +kernel
theorem dX9_keep_18 : decode cX9_keep 18 = .ok (.iload_n 1, 1) := by decide +kernel
theorem dX9_keep_19 : decode cX9_keep 19 = .ok (.iaload, 1) := by decide +kernel
theorem dX9_keep_20 : decode cX9_keep 20 = .ok (.iastore, 1) := by decide +kernel
theorem dX9_keep_21 : decode cX9_keep 21 = .ok (.iinc 1 1, 3) := by decide +kernel
theorem dX9_keep_24 : decode cX9_keep 24 = .ok (.goto (-22), 3) := by decide +kernel
theorem dX9_keep_27 : decode cX9_keep 27 = .ok (.aload_n 0, 1) := by decide +kernel
theorem dX9_keep_28 : decode cX9_keep 28 = .ok (.iconst 1, 1) := by decide +kernel
theorem dX9_keep_29 : decode cX9_keep 29 = .ok (.putfield 44, 3) := by decide +kernel
theorem dX9_keep_32 : decode cX9_keep 32 = .ok (.aload_n 0, 1) := by decide +kernel
theorem dX9_keep_33 : decode cX9_keep 33 = .ok (.getfield 7, 3) := by decide +kernel
theorem dX9_keep_36 : decode cX9_keep 36 = .ok (.bipush 114, 2) := by decide +kernel
theorem dX9_keep_38 : decode cX9_keep 38 = .ok (.iaload, 1) := by decide +kernel
theorem dX9_keep_39 : decode cX9_keep 39 = .ok (.ireturn, 1) := by decide +kernel
theorem dX9_restore_0 : decode cX9_restore 0 = .ok (.aload_n 0, 1) := by decide +kernel
theorem dX9_restore_1 : decode cX9_restore 1 = .ok (.getfield 44, 3) := by decide +kernel
theorem dX9_restore_4 : decode cX9_restore 4 = .ok (.ifCond .ne 6, 3) := by decide +kernel
theorem dX9_restore_7 : decode cX9_restore 7 = .ok (.bipush (-5), 2) := by decide +kernel
theorem dX9_restore_9 : decode cX9_restore 9 = .ok (.ireturn, 1) := by decide +kernel
theorem dX9_restore_10 : decode cX9_restore 10 = .ok (.aload_n 0, 1) := by decide +kernel
theorem dX9_restore_11 : decode cX9_restore 11 = .ok (.invokevirtual 48, 3) := by decide +kernel
theorem dX9_restore_14 : decode cX9_restore 14 = .ok (.iconst 0, 1) := by decide +kernel
theorem dX9_restore_15 : decode cX9_restore 15 = .ok (.istore_n 1, 1) := by decide +kernel
theorem dX9_restore_16 : decode cX9_restore 16 = .ok (.iload_n 1, 1) := by decide +kernel
theorem dX9_restore_17 : decode cX9_restore 17 = .ok (.sipush 198, 3) := by decide +kernel
theorem dX9_restore_20 : decode cX9_restore 20 = .ok (.if_icmp .ge 21, 3) := by decide +kernel
theorem dX9_restore_23 : decode cX9_restore 23 = .ok (.aload_n 0, 1) := by decide +kernel
theorem dX9_restore_24 : decode cX9_restore 24 = .ok (.getfield 7, 3) := by decide +kernel
theorem dX9_restore_27 : decode cX9_restore 27 = .ok (.iload_n 1, 1) := by decide +kernel
theorem dX9_restore_28 : decode cX9_restore 28 = .ok (.aload_n 0, 1) := by decide +kernel
theorem dX9_restore_29 : decode cX9_restore 29 = .ok (.getfield 19, 3) := by decide +kernel
theorem dX9_restore_32 : decode cX9_restore 32 = .ok (.iload_n 1, 1) := by decide +kernel
theorem dX9_restore_33 : decode cX9_restore 33 = .ok (.iaload, 1) := by decide +kernel
theorem dX9_restore_34 : decode cX9_restore 34 = .ok (.iastore, 1) := by decide +kernel
theorem dX9_restore_35 : decode cX9_restore 35 = .ok (.iinc 1 1, 3) := by decide +kernel
theorem dX9_restore_38 : decode cX9_restore 38 = .ok (.goto (-22), 3) := by decide +kernel
theorem dX9_restore_41 : decode cX9_restore 41 = .ok (.aload_n 0, 1) := by decide +kernel
theorem dX9_restore_42 : decode cX9_restore 42 = .ok (.getfield 7, 3) := by decide +kernel
theorem dX9_restore_45 : decode cX9_restore 45 = .ok (.bipush 114, 2) := by decide +kernel
theorem dX9_restore_47 : decode cX9_restore 47 = .ok (.iaload, 1) := by decide +kernel
theorem dX9_restore_48 : decode cX9_restore 48 = .ok (.ireturn, 1) := by decide +kernel
theorem dX9_putAside_0 : decode cX9_putAside 0 = .ok (.iconst 0, 1) := by decide +kernel
theorem dX9_putAside_1 : decode cX9_putAside 1 = .ok (.istore_n 1, 1) := by decide +kernel
theorem dX9_putAside_2 : decode cX9_putAside 2 = .ok (.iload_n 1, 1) := by decide +kernel
theorem dX9_putAside_3 : decode cX9_putAside 3 = .ok (.sipush 198, 3) := by decide +kernel
theorem dX9_putAside_6 : decode cX9_putAside 6 = .ok (.if_icmp .ge 21, 3) := by decide +kernel
theorem dX9_putAside_9 : decode cX9_putAside 9 = .ok (.aload_n 0, 1) := by decide +kernel
theorem dX9_putAside_10 : decode cX9_putAside 10 = .ok (.getfield 13, 3) := by decide +kernel
theorem dX9_putAside_13 : decode cX9_putAside 13 = .ok (.iload_n 1, 1) := by decide +kernel
theorem dX9_putAside_14 : decode cX9_putAside 14 = .ok (.aload_n 0, 1) := by decide +kernel
theorem dX9_putAside_15 : decode cX9_putAside 15 = .ok (.getfield 7, 3) := by decide +kernel
theorem dX9_putAside_18 : decode cX9_putAside 18 = .ok (.iload_n 1, 1) := by decide +kernel
theorem dX9_putAside_19 : decode cX9_putAside 19 = .ok (.iaload, 1) := by decide +kernel
theorem dX9_putAside_20 : decode cX9_putAside 20 = .ok (.iastore, 1) := by decide +kernel
theorem dX9_putAside_21 : decode cX9_putAside 21 = .ok (.iinc 1 1, 3) := by decide +kernel
theorem dX9_putAside_24 : decode cX9_putAside 24 = .ok (.goto (-22), 3) := by decide +kernel
theorem dX9_putAside_27 : decode cX9_putAside 27 = .ok (.return_, 1) := by decide +kernel
theorem dX9_putBack_0 : decode cX9_putBack 0 = .ok (.iconst 0, 1) := by decide +kernel
theorem dX9_putBack_1 : decode cX9_putBack 1 = .ok (.istore_n 1, 1) := by decide +kernel
theorem dX9_putBack_2 : decode cX9_putBack 2 = .ok (.iload_n 1, 1) := by decide +kernel
theorem dX9_putBack_3 : decode cX9_putBack 3 = .ok (.sipush 198, 3) := by decide +kernel

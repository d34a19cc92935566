theorem dX8_lays_23 : decode cX8_lays 23 = .ok (.iinc 4 1, 3) := by decide +kernel
theorem dX8_lays_26 : decode cX8_lays 26 = .ok (.goto (-23), 3) := by decide +kernel
theorem dX8_lays_29 : decode cX8_lays 29 = .ok (.return_, 1) := by decide +kernel
theorem dX8_records_0 : decode cX8_records 0 = .ok (.aload_n 0, 1) := by decide +kernel
theorem dX8_records_1 : decode cX8_records 1 = .ok (.getfield 36, 3) := by decide +kernel
theorem dX8_records_4 : decode cX8_records 4 = .ok (.bipush 6, 2) := by decide +kernel
theorem dX8_records_6 : decode cX8_records 6 = .ok (.if_icmp .ne 44, 3) := by decide +kernel
theorem dX8_records_9 : decode cX8_records 9 = .ok (.iconst 0, 1) := by decide +kernel
theorem dX8_records_10 : decode cX8_records 10 = .ok (.istore_n 1, 1) := by decide +kernel
theorem dX8_records_11 : decode cX8_records 11 = .ok (.iload_n 1, 1) := by decide +kernel
theorem dX8_records_12 : decode cX8_records 12 = .ok (.sipush 7485, 3) := by decide +kernel
theorem dX8_records_15 : decode cX8_records 15 = .ok (.if_icmp .ge 25, 3) := by decide +kernel
theorem dX8_records_18 : decode cX8_records 18 = .ok (.aload_n 0, 1) := by decide +kernel
theorem dX8_records_19 : decode cX8_records 19 = .ok (.getfield 16, 3) := by decide +kernel
theorem dX8_records_22 : decode cX8_records 22 = .ok (.iload_n 1, 1) := by decide +kernel
theorem dX8_records_23 : decode cX8_records 23 = .ok (.aload_n 0, 1) := by decide +kernel
theorem dX8_records_24 : decode cX8_records 24 = .ok (.getfield 16, 3) := by decide +kernel
theorem dX8_records_27 : decode cX8_records 27 = .ok (.iload_n 1, 1) := by decide +kernel
theorem dX8_records_28 : decode cX8_records 28 = .ok (.sipush 1497, 3) := by decide +kernel
theorem dX8_records_31 : decode cX8_records 31 = .ok (.iadd, 1) := by decide +kernel
theorem dX8_records_32 : decode cX8_records 32 = .ok (.iaload, 1) := by decide +kernel
theorem dX8_records_33 : decode cX8_records 33 = .ok (.iastore, 1) := by decide +kernel
theorem dX8_records_34 : decode cX8_records 34 = .ok (.iinc 1 1, 3) := by decide +kernel
theorem dX8_records_37 : decode cX8_records 37 = .ok (.goto (-26), 3) := by decide +kernel
theorem dX8_records_40 : decode cX8_records 40 = .ok (.aload_n 0, 1) := by decide +kernel
theorem dX8_records_41 : decode cX8_records 41 = .ok (.dup, 1) := by decide +kernel
theorem dX8_records_42 : decode cX8_records 42 = .ok (.getfield 36, 3) := by decide +kernel
theorem dX8_records_45 : decode cX8_records 45 = .ok (.iconst 1, 1) := by decide +kernel
theorem dX8_records_46 : decode cX8_records 46 = .ok (.isub, 1) := by decide +kernel
theorem dX8_records_47 : decode cX8_records 47 = .ok (.putfield 36, 3) := by decide +kernel
theorem dX8_records_50 : decode cX8_records 50 = .ok (.aload_n 0, 1) := by decide +kernel
theorem dX8_records_51 : decode cX8_records 51 = .ok (.getfield 7, 3) := by decide +kernel
theorem dX8_records_54 : decode cX8_records 54 = .ok (.iconst 0, 1) := by decide +kernel
theorem dX8_records_55 : decode cX8_records 55 = .ok (.aload_n 0, 1) := by decide +kernel
theorem dX8_records_56 : decode cX8_records 56 = .ok (.getfield 16, 3) := by decide +kernel
theorem dX8_records_59 : decode cX8_records 59 = .ok (.sipush 1497, 3) := by decide +kernel
theorem dX8_records_62 : decode cX8_records 62 = .ok (.aload_n 0, 1) := by decide +kernel
theorem dX8_records_63 : decode cX8_records 63 = .ok (.getfield 36, 3) := by decide +kernel
theorem dX8_records_66 : decode cX8_records 66 = .ok (.imul, 1) := by decide +kernel
theorem dX8_records_67 : decode cX8_records 67 = .ok (.invokestatic 40, 3) := by decide +kernel
theorem dX8_records_70 : decode cX8_records 70 = .ok (.aload_n 0, 1) := by decide +kernel
theorem dX8_records_71 : decode cX8_records 71 = .ok (.dup, 1) := by decide +kernel
theorem dX8_records_72 : decode cX8_records 72 = .ok (.getfield 36, 3) := by decide +kernel
theorem dX8_records_75 : decode cX8_records 75 = .ok (.iconst 1, 1) := by decide +kernel
theorem dX8_records_76 : decode cX8_records 76 = .ok (.iadd, 1) := by decide +kernel
theorem dX8_records_77 : decode cX8_records 77 = .ok (.putfield 36, 3) := by decide +kernel
theorem dX8_records_80 : decode cX8_records 80 = .ok (.return_, 1) := by decide +kernel
theorem dX8_undo_0 : decode cX8_undo 0 = .ok (.aload_n 0, 1) := by decide +kernel
theorem dX8_undo_1 : decode cX8_undo 1 = .ok (.getfield 36, 3) := by decide +kernel
theorem dX8_undo_4 : decode cX8_undo 4 = .ok (.ifCond .ne 6, 3) := by decide +kernel
theorem dX8_undo_7 : decode cX8_undo 7 = .ok (.bipush (-5), 2) := by decide +kernel
theorem dX8_undo_9 : decode cX8_undo 9 = .ok (.ireturn, 1) := by decide +kernel
theorem dX8_undo_10 : decode cX8_undo 10 = .ok (.aload_n 0, 1) := by decide +kernel
theorem dX8_undo_11 : decode cX8_undo 11 = .ok (.dup, 1) := by decide +kernel
theorem dX8_undo_12 : decode cX8_undo 12 = .ok (.getfield 36, 3) := by decide +kernel
theorem dX8_undo_15 : decode cX8_undo 15 = .ok (.iconst 1, 1) := by decide +kernel
theorem dX8_undo_16 : decode cX8_undo 16 = .ok (.isub, 1) := by decide +kernel
theorem dX8_undo_17 : decode cX8_undo 17 = .ok (.putfield 36, 3) := by decide +kernel
theorem dX8_undo_20 : decode cX8_undo 20 = .ok (.aload_n 0, 1) := by decide +kernel
theorem dX8_undo_21 : decode cX8_undo 21 = .ok (.getfield 16, 3) := by decide +kernel
theorem dX8_undo_24 : decode cX8_undo 24 = .ok (.sipush 1497, 3) := by decide +kernel
theorem dX8_undo_27 : decode cX8_undo 27 = .ok (.aload_n 0, 1) := by decide +kernel
theorem dX8_undo_28 : decode cX8_undo 28 = .ok (.getfield 36, 3) := by decide +kernel
theorem dX8_undo_31 : decode cX8_undo 31 = .ok (.imul, 1) := by decide +kernel
theorem dX8_undo_32 : decode cX8_undo 32 = .ok (.aload_n 0, 1) := by decide +kernel
theorem dX8_undo_33 : decode cX8_undo 33 = .ok (.getfield 7, 3) := by decide +kernel
theorem dX8_undo_36 : decode cX8_undo 36 = .ok (.iconst 0, 1) := by decide +kernel
theorem dX8_undo_37 : decode cX8_undo 37 = .ok (.invokestatic 40, 3) := by decide +kernel
theorem dX8_undo_40 : decode cX8_undo 40 = .ok (.aload_n 0, 1) := by decide +kernel
theorem dX8_undo_41 : decode cX8_undo 41 = .ok (.getfield 36, 3) := by decide +kernel
theorem dX8_undo_44 : decode cX8_undo 44 = .ok (.ireturn, 1) := by decide +kernel
theorem dX8_save_0 : decode cX8_save 0 = .ok (.iload_n 1, 1) := by decide +kernel
theorem dX8_save_1 : decode cX8_save 1 = .ok (.iconst 0, 1) := by decide +kernel
theorem dX8_save_2 : decode cX8_save 2 = .ok (.iconst 1, 1) := by decide +kernel
theorem dX8_save_3 : decode cX8_save 3 = .ok (.invokestatic 32, 3) := by decide +kernel
theorem dX8_save_6 : decode cX8_save 6 = .ok (.ifCond .ne 6, 3) := by decide +kernel
theorem dX8_save_9 : decode cX8_save 9 = .ok (.bipush (-2), 2) := by decide +kernel
theorem dX8_save_11 : decode cX8_save 11 = .ok (.ireturn, 1) := by decide +kernel
theorem dX8_save_12 : decode cX8_save 12 = .ok (.aload_n 0, 1) := by decide +kernel
theorem dX8_save_13 : decode cX8_save 13 = .ok (.getfield 7, 3) := by decide +kernel
theorem dX8_save_16 : decode cX8_save 16 = .ok (.iconst 0, 1) := by decide +kernel
theorem dX8_save_17 : decode cX8_save 17 = .ok (.aload_n 0, 1) := by decide +kernel
theorem dX8_save_18 : decode cX8_save 18 = .ok (.getfield 19, 3) := by decide +kernel
theorem dX8_save_21 : decode cX8_save 21 = .ok (.sipush 1497, 3) := by decide +kernel
theorem dX8_save_24 : decode cX8_save 24 = .ok (.iload_n 1, 1) := by decide +kernel
theorem dX8_save_25 : decode cX8_save 25 = .ok (.imul, 1) := by decide +kernel
theorem dX8_save_26 : decode cX8_save 26 = .ok (.invokestatic 40, 3) := by decide +kernel
theorem dX8_save_29 : decode cX8_save 29 = .ok (.aload_n 0, 1) := by decide +kernel
theorem dX8_save_30 : decode cX8_save 30 = .ok (.getfield 22, 3) := by decide +kernel
theorem dX8_save_33 : decode cX8_save 33 = .ok (.iload_n 1, 1) := by decide +kernel
theorem dX8_save_34 : decode cX8_save 34 = .ok (.iconst 1, 1) := by decide +kernel
theorem dX8_save_35 : decode cX8_save 35 = .ok (.bastore, 1) := by decide +kernel
theorem dX8_save_36 : decode cX8_save 36 = .ok (.aload_n 0, 1) := by decide +kernel
theorem dX8_save_37 : decode cX8_save 37 = .ok (.getfield 7, 3) := by decide +kernel
theorem dX8_save_40 : decode cX8_save 40 = .ok (.iconst 1, 1) := by decide +kernel
theorem dX8_save_41 : decode cX8_save 41 = .ok (.iaload, 1) := by decide +kernel
theorem dX8_save_42 : decode cX8_save 42 = .ok (.ireturn, 1) := by decide +kernel
theorem dX8_restore_0 : decode cX8_restore 0 = .ok (.iload_n 1, 1) := by decide +kernel
theorem dX8_restore_1 : decode cX8_restore 1 = .ok (.iconst 0, 1) := by decide +kernel
theorem dX8_restore_2 : decode cX8_restore 2 = .ok (.iconst 1, 1) := by decide +kernel
theorem dX8_restore_3 : decode cX8_restore 3 = .ok (.invokestatic 32, 3) := by decide +kernel
theorem dX8_restore_6 : decode cX8_restore 6 = .ok (.ifCond .ne 6, 3) := by decide +kernel
theorem dX8_restore_9 : decode cX8_restore 9 = .ok (.bipush (-2), 2) := by decide +kernel
theorem dX8_restore_11 : decode cX8_restore 11 = .ok (.ireturn, 1) := by decide +kernel
theorem dX8_restore_12 : decode cX8_restore 12 = .ok (.aload_n 0, 1) := by decide +kernel
theorem dX8_restore_13 : decode cX8_restore 13 = .ok (.getfield 22, 3) := by decide +kernel
theorem dX8_restore_16 : decode cX8_restore 16 = .ok (.iload_n 1, 1) := by decide +kernel
theorem dX8_restore_17 : decode cX8_restore 17 = .ok (.baload, 1) := by decide +kernel
theorem dX8_restore_18 : decode cX8_restore 18 = .ok (.ifCond .ne 6, 3) := by decide +kernel
theorem dX8_restore_21 : decode cX8_restore 21 = .ok (.bipush (-5), 2) := by decide +kernel
theorem dX8_restore_23 : decode cX8_restore 23 = .ok (.ireturn, 1) := by decide +kernel
theorem dX8_restore_24 : decode cX8_restore 24 = .ok (.aload_n 0, 1) := by decide +kernel
theorem dX8_restore_25 : decode cX8_restore 25 = .ok (.invokevirtual 44, 3) := by decide +kernel
theorem dX8_restore_28 : decode cX8_restore 28 = .ok (.aload_n 0, 1) := by decide +kernel
theorem dX8_restore_29 : decode cX8_restore 29 = .ok (.getfield 19, 3) := by decide +kernel
theorem dX8_restore_32 : decode cX8_restore 32 = .ok (.sipush 1497, 3) := by decide +kernel
theorem dX8_restore_35 : decode cX8_restore 35 = .ok (.iload_n 1, 1) := by decide +kernel
theorem dX8_restore_36 : decode cX8_restore 36 = .ok (.imul, 1) := by decide +kernel
theorem dX8_restore_37 : decode cX8_restore 37 = .ok (.aload_n 0, 1) := by decide +kernel
theorem dX8_restore_38 : decode cX8_restore 38 = .ok (.getfield 7, 3) := by decide +kernel
theorem dX8_restore_41 : decode cX8_restore 41 = .ok (.iconst 0, 1) := by decide +kernel
theorem dX8_restore_42 : decode cX8_restore 42 = .ok (.invokestatic 40, 3) := by decide +kernel
theorem dX8_restore_45 : decode cX8_restore 45 = .ok (.aload_n 0, 1) := by decide +kernel
theorem dX8_restore_46 : decode cX8_restore 46 = .ok (.getfield 7, 3) := by decide +kernel
theorem dX8_restore_49 : decode cX8_restore 49 = .ok (.iconst 1, 1) := by decide +kernel
theorem dX8_restore_50 : decode cX8_restore 50 = .ok (.iaload, 1) := by decide +kernel
theorem dX8_restore_51 : decode cX8_restore 51 = .ok (.ireturn, 1) := by decide +kernel
theorem dX8_how_0 : decode cX8_how 0 = .ok (.aload_n 0, 1) := by decide +kernel
theorem dX8_how_1 : decode cX8_how 1 = .ok (.iconst 0, 1) := by decide +kernel
theorem dX8_how_2 : decode cX8_how 2 = .ok (.iaload, 1) := by decide +kernel
theorem dX8_how_3 : decode cX8_how 3 = .ok (.aload_n 0, 1) := by decide +kernel
theorem dX8_how_4 : decode cX8_how 4 = .ok (.iload_n 1, 1) := by decide +kernel
theorem dX8_how_5 : decode cX8_how 5 = .ok (.iconst 3, 1) := by decide +kernel
theorem dX8_how_6 : decode cX8_how 6 = .ok (.invokestatic 47, 3) := by decide +kernel
theorem dX8_how_9 : decode cX8_how 9 = .ok (.if_icmp .ge 5, 3) := by decide +kernel
theorem dX8_how_12 : decode cX8_how 12 = .ok (.iconst 0, 1) := by decide +kernel
theorem dX8_how_13 : decode cX8_how 13 = .ok (.ireturn, 1) := by decide +kernel
theorem dX8_how_14 : decode cX8_how 14 = .ok (.aload_n 0, 1) := by decide +kernel
theorem dX8_how_15 : decode cX8_how 15 = .ok (.iload_n 1, 1) := by decide +kernel
theorem dX8_how_16 : decode cX8_how 16 = .ok (.iconst 4, 1) := by decide +kernel
theorem dX8_how_17 : decode cX8_how 17 = .ok (.invokestatic 47, 3) := by decide +kernel
theorem dX8_how_20 : decode cX8_how 20 = .ok (.ifCond .le 7, 3) := by decide +kernel
theorem dX8_how_23 : decode cX8_how 23 = .ok (.iconst 1, 1) := by decide +kernel
theorem dX8_how_24 : decode cX8_how 24 = .ok (.goto 18, 3) := by decide +kernel
theorem dX8_how_27 : decode cX8_how 27 = .ok (.aload_n 0, 1) := by decide +kernel
theorem dX8_how_28 : decode cX8_how 28 = .ok (.iload_n 1, 1) := by decide +kernel
theorem dX8_how_29 : decode cX8_how 29 = .ok (.bipush 7, 2) := by decide +kernel
theorem dX8_how_31 : decode cX8_how 31 = .ok (.invokestatic 47, 3) := by decide +kernel
theorem dX8_how_34 : decode cX8_how 34 = .ok (.ifCond .le 7, 3) := by decide +kernel
theorem dX8_how_37 : decode cX8_how 37 = .ok (.iconst 3, 1) := by decide +kernel
theorem dX8_how_38 : decode cX8_how 38 = .ok (.goto 4, 3) := by decide +kernel
theorem dX8_how_41 : decode cX8_how 41 = .ok (.iconst 2, 1) := by decide +kernel
theorem dX8_how_42 : decode cX8_how 42 = .ok (.ireturn, 1) := by decide +kernel
theorem dX8_purity_0 : decode cX8_purity 0 = .ok (.aload_n 0, 1) := by decide +kernel
theorem dX8_purity_1 : decode cX8_purity 1 = .ok (.iconst 0, 1) := by decide +kernel
theorem dX8_purity_2 : decode cX8_purity 2 = .ok (.iaload, 1) := by decide +kernel
theorem dX8_purity_3 : decode cX8_purity 3 = .ok (.aload_n 0, 1) := by decide +kernel
theorem dX8_purity_4 : decode cX8_purity 4 = .ok (.iload_n 1, 1) := by decide +kernel
theorem dX8_purity_5 : decode cX8_purity 5 = .ok (.iconst 3, 1) := by decide +kernel
theorem dX8_purity_6 : decode cX8_purity 6 = .ok (.invokestatic 47, 3) := by decide +kernel
theorem dX8_purity_9 : decode cX8_purity 9 = .ok (.isub, 1) := by decide +kernel
theorem dX8_purity_10 : decode cX8_purity 10 = .ok (.istore_n 2, 1) := by decide +kernel
theorem dX8_purity_11 : decode cX8_purity 11 = .ok (.aload_n 0, 1) := by decide +kernel
theorem dX8_purity_12 : decode cX8_purity 12 = .ok (.iload_n 1, 1) := by decide +kernel
theorem dX8_purity_13 : decode cX8_purity 13 = .ok (.iconst 2, 1) := by decide +kernel
theorem dX8_purity_14 : decode cX8_purity 14 = .ok (.invokestatic 47, 3) := by decide +kernel
theorem dX8_purity_17 : decode cX8_purity 17 = .ok (.iload_n 2, 1) := by decide +kernel
theorem dX8_purity_18 : decode cX8_purity 18 = .ok (.ifCond .le 12, 3) := by decide +kernel
theorem dX8_purity_21 : decode cX8_purity 21 = .ok (.aload_n 0, 1) := by decide +kernel
theorem dX8_purity_22 : decode cX8_purity 22 = .ok (.bipush 7, 2) := by decide +kernel
theorem dX8_purity_24 : decode cX8_purity 24 = .ok (.iaload, 1) := by decide +kernel
theorem dX8_purity_25 : decode cX8_purity 25 = .ok (.iload_n 2, 1) := by decide +kernel
theorem dX8_purity_26 : decode cX8_purity 26 = .ok (.imul, 1) := by decide +kernel
theorem dX8_purity_27 : decode cX8_purity 27 = .ok (.goto 4, 3) := by decide +kernel
theorem dX8_purity_30 : decode cX8_purity 30 = .ok (.iconst 0, 1) := by decide +kernel
theorem dX8_purity_31 : decode cX8_purity 31 = .ok (.isub, 1) := by decide +kernel
theorem dX8_purity_32 : decode cX8_purity 32 = .ok (.istore_n 3, 1) := by decide +kernel
theorem dX8_purity_33 : decode cX8_purity 33 = .ok (.iload_n 3, 1) := by decide +kernel
theorem dX8_purity_34 : decode cX8_purity 34 = .ok (.ifCond .le 7, 3) := by decide +kernel
theorem dX8_purity_37 : decode cX8_purity 37 = .ok (.iload_n 3, 1) := by decide +kernel
theorem dX8_purity_38 : decode cX8_purity 38 = .ok (.goto 4, 3) := by decide +kernel
theorem dX8_purity_41 : decode cX8_purity 41 = .ok (.iconst 0, 1) := by decide +kernel
theorem dX8_purity_42 : decode cX8_purity 42 = .ok (.ireturn, 1) := by decide +kernel
theorem dX8_inYard_0 : decode cX8_inYard 0 = .ok (.iconst 0, 1) := by decide +kernel
theorem dX8_inYard_1 : decode cX8_inYard 1 = .ok (.istore_n 1, 1) := by decide +kernel
theorem dX8_inYard_2 : decode cX8_inYard 2 = .ok (.iconst 0, 1) := by decide +kernel
theorem dX8_inYard_3 : decode cX8_inYard 3 = .ok (.istore_n 2, 1) := by decide +kernel
theorem dX8_inYard_4 : decode cX8_inYard 4 = .ok (.iload_n 2, 1) := by decide +kernel
theorem dX8_inYard_5 : decode cX8_inYard 5 = .ok (.aload_n 0, 1) := by decide +kernel
theorem dX8_inYard_6 : decode cX8_inYard 6 = .ok (.sipush 296, 3) := by decide +kernel
theorem dX8_inYard_9 : decode cX8_inYard 9 = .ok (.iaload, 1) := by decide +kernel
theorem dX8_inYard_10 : decode cX8_inYard 10 = .ok (.if_icmp .ge 23, 3) := by decide +kernel
theorem dX8_inYard_13 : decode cX8_inYard 13 = .ok (.iload_n 1, 1) := by decide +kernel
theorem dX8_inYard_14 : decode cX8_inYard 14 = .ok (.aload_n 0, 1) := by decide +kernel
theorem dX8_inYard_15 : decode cX8_inYard 15 = .ok (.sipush 297, 3) := by decide +kernel
theorem dX8_inYard_18 : decode cX8_inYard 18 = .ok (.iconst 3, 1) := by decide +kernel
theorem dX8_inYard_19 : decode cX8_inYard 19 = .ok (.iload_n 2, 1) := by decide +kernel
theorem dX8_inYard_20 : decode cX8_inYard 20 = .ok (.imul, 1) := by decide +kernel
theorem dX8_inYard_21 : decode cX8_inYard 21 = .ok (.iadd, 1) := by decide +kernel
theorem dX8_inYard_22 : decode cX8_inYard 22 = .ok (.iconst 1, 1) := by decide +kernel
theorem dX8_inYard_23 : decode cX8_inYard 23 = .ok (.iadd, 1) := by decide +kernel
theorem dX8_inYard_24 : decode cX8_inYard 24 = .ok (.iaload, 1) := by decide +kernel
theorem dX8_inYard_25 : decode cX8_inYard 25 = .ok (.iadd, 1) := by decide +kernel
theorem dX8_inYard_26 : decode cX8_inYard 26 = .ok (.istore_n 1, 1) := by decide +kernel
theorem dX8_inYard_27 : decode cX8_inYard 27 = .ok (.iinc 2 1, 3) := by decide +kernel
theorem dX8_inYard_30 : decode cX8_inYard 30 = .ok (.goto (-26), 3) := by decide +kernel
theorem dX8_inYard_33 : decode cX8_inYard 33 = .ok (.iload_n 1, 1) := by decide +kernel
theorem dX8_inYard_34 : decode cX8_inYard 34 = .ok (.ireturn, 1) := by decide +kernel
theorem dX8_loses_0 : decode cX8_loses 0 = .ok (.iconst 0, 1) := by decide +kernel
theorem dX8_loses_1 : decode cX8_loses 1 = .ok (.istore_n 1, 1) := by decide +kernel
theorem dX8_loses_2 : decode cX8_loses 2 = .ok (.iload_n 1, 1) := by decide +kernel
theorem dX8_loses_3 : decode cX8_loses 3 = .ok (.aload_n 0, 1) := by decide +kernel
theorem dX8_loses_4 : decode cX8_loses 4 = .ok (.iconst 1, 1) := by decide +kernel
theorem dX8_loses_5 : decode cX8_loses 5 = .ok (.iaload, 1) := by decide +kernel
theorem dX8_loses_6 : decode cX8_loses 6 = .ok (.if_icmp .ge 97, 3) := by decide +kernel
theorem dX8_loses_9 : decode cX8_loses 9 = .ok (.aload_n 0, 1) := by decide +kernel
theorem dX8_loses_10 : decode cX8_loses 10 = .ok (.iload_n 1, 1) := by decide +kernel
theorem dX8_loses_11 : decode cX8_loses 11 = .ok (.invokestatic 51, 3) := by decide +kernel
theorem dX8_loses_14 : decode cX8_loses 14 = .ok (.iconst 1, 1) := by decide +kernel
theorem dX8_loses_15 : decode cX8_loses 15 = .ok (.if_icmp .ne 82, 3) := by decide +kernel
theorem dX8_loses_18 : decode cX8_loses 18 = .ok (.aload_n 0, 1) := by decide +kernel
theorem dX8_loses_19 : decode cX8_loses 19 = .ok (.iconst 0, 1) := by decide +kernel
theorem dX8_loses_20 : decode cX8_loses 20 = .ok (.iaload, 1) := by decide +kernel
theorem dX8_loses_21 : decode cX8_loses 21 = .ok (.aload_n 0, 1) := by decide +kernel
theorem dX8_loses_22 : decode cX8_loses 22 = .ok (.iload_n 1, 1) := by decide +kernel
theorem dX8_loses_23 : decode cX8_loses 23 = .ok (.iconst 3, 1) := by decide +kernel
theorem dX8_loses_24 : decode cX8_loses 24 = .ok (.invokestatic 47, 3) := by decide +kernel
theorem dX8_loses_27 : decode cX8_loses 27 = .ok (.isub, 1) := by decide +kernel
theorem dX8_loses_28 : decode cX8_loses 28 = .ok (.aload_n 0, 1) := by decide +kernel
theorem dX8_loses_29 : decode cX8_loses 29 = .ok (.bipush 8, 2) := by decide +kernel
theorem dX8_loses_31 : decode cX8_loses 31 = .ok (.iaload, 1) := by decide +kernel
theorem dX8_loses_32 : decode cX8_loses 32 = .ok (.if_icmp .le 65, 3) := by decide +kernel
theorem dX8_loses_35 : decode cX8_loses 35 = .ok (.aload_n 0, 1) := by decide +kernel
theorem dX8_loses_36 : decode cX8_loses 36 = .ok (.iload_n 1, 1) := by decide +kernel
theorem dX8_loses_37 : decode cX8_loses 37 = .ok (.iconst 4, 1) := by decide +kernel
theorem dX8_loses_38 : decode cX8_loses 38 = .ok (.invokestatic 47, 3) := by decide +kernel
theorem dX8_loses_41 : decode cX8_loses 41 = .ok (.istore_n 2, 1) := by decide +kernel
theorem dX8_loses_42 : decode cX8_loses 42 = .ok (.aload_n 0, 1) := by decide +kernel
theorem dX8_loses_43 : decode cX8_loses 43 = .ok (.bipush 56, 2) := by decide +kernel
theorem dX8_loses_45 : decode cX8_loses 45 = .ok (.bipush 8, 2) := by decide +kernel
theorem dX8_loses_47 : decode cX8_loses 47 = .ok (.iload_n 1, 1) := by decide +kernel
theorem dX8_loses_48 : decode cX8_loses 48 = .ok (.imul, 1) := by decide +kernel
theorem dX8_loses_49 : decode cX8_loses 49 = .ok (.iadd, 1) := by decide +kernel
theorem dX8_loses_50 : decode cX8_loses 50 = .ok (.iconst 4, 1) := by decide +kernel
theorem dX8_loses_51 : decode cX8_loses 51 = .ok (.iadd, 1) := by decide +kernel
theorem dX8_loses_52 : decode cX8_loses 52 = .ok (.iconst 0, 1) := by decide +kernel
theorem dX8_loses_53 : decode cX8_loses 53 = .ok (.iastore, 1) := by decide +kernel
theorem dX8_loses_54 : decode cX8_loses 54 = .ok (.aload_n 0, 1) := by decide +kernel
theorem dX8_loses_55 : decode cX8_loses 55 = .ok (.bipush 56, 2) := by decide +kernel
theorem dX8_loses_57 : decode cX8_loses 57 = .ok (.bipush 8, 2) := by decide +kernel
theorem dX8_loses_59 : decode cX8_loses 59 = .ok (.iload_n 1, 1) := by decide +kernel
theorem dX8_loses_60 : decode cX8_loses 60 = .ok (.imul, 1) := by decide +kernel
theorem dX8_loses_61 : decode cX8_loses 61 = .ok (.iadd, 1) := by decide +kernel
theorem dX8_loses_62 : decode cX8_loses 62 = .ok (.bipush 7, 2) := by decide +kernel
theorem dX8_loses_64 : decode cX8_loses 64 = .ok (.iadd, 1) := by decide +kernel
theorem dX8_loses_65 : decode cX8_loses 65 = .ok (.dup2, 1) := by decide +kernel
theorem dX8_loses_66 : decode cX8_loses 66 = .ok (.iaload, 1) := by decide +kernel
theorem dX8_loses_67 : decode cX8_loses 67 = .ok (.iload_n 2, 1) := by decide +kernel
theorem dX8_loses_68 : decode cX8_loses 68 = .ok (.iadd, 1) := by decide +kernel
theorem dX8_loses_69 : decode cX8_loses 69 = .ok (.iastore, 1) := by decide +kernel
theorem dX8_loses_70 : decode cX8_loses 70 = .ok (.aload_n 0, 1) := by decide +kernel
theorem dX8_loses_71 : decode cX8_loses 71 = .ok (.bipush 28, 2) := by decide +kernel
theorem dX8_loses_73 : decode cX8_loses 73 = .ok (.dup2, 1) := by decide +kernel
theorem dX8_loses_74 : decode cX8_loses 74 = .ok (.iaload, 1) := by decide +kernel
theorem dX8_loses_75 : decode cX8_loses 75 = .ok (.iload_n 2, 1) := by decide +kernel
theorem dX8_loses_76 : decode cX8_loses 76 = .ok (.iadd, 1) := by decide +kernel
theorem dX8_loses_77 : decode cX8_loses 77 = .ok (.iastore, 1) := by decide +kernel
theorem dX8_loses_78 : decode cX8_loses 78 = .ok (.aload_n 0, 1) := by decide +kernel
theorem dX8_loses_79 : decode cX8_loses 79 = .ok (.bipush 32, 2) := by decide +kernel
theorem dX8_loses_81 : decode cX8_loses 81 = .ok (.iconst 4, 1) := by decide +kernel
theorem dX8_loses_82 : decode cX8_loses 82 = .ok (.aload_n 0, 1) := by decide +kernel
theorem dX8_loses_83 : decode cX8_loses 83 = .ok (.iload_n 1, 1) := by decide +kernel
theorem dX8_loses_84 : decode cX8_loses 84 = .ok (.iconst 0, 1) := by decide +kernel
theorem dX8_loses_85 : decode cX8_loses 85 = .ok (.invokestatic 47, 3) := by decide +kernel
theorem dX8_loses_88 : decode cX8_loses 88 = .ok (.imul, 1) := by decide +kernel
theorem dX8_loses_89 : decode cX8_loses 89 = .ok (.iadd, 1) := by decide +kernel
theorem dX8_loses_90 : decode cX8_loses 90 = .ok (.iconst 2, 1) := by decide +kernel
theorem dX8_loses_91 : decode cX8_loses 91 = .ok (.iadd, 1) := by decide +kernel
theorem dX8_loses_92 : decode cX8_loses 92 = .ok (.dup2, 1) := by decide +kernel
theorem dX8_loses_93 : decode cX8_loses 93 = .ok (.iaload, 1) := by decide +kernel
theorem dX8_loses_94 : decode cX8_loses 94 = .ok (.iload_n 2, 1) := by decide +kernel
theorem dX8_loses_95 : decode cX8_loses 95 = .ok (.iadd, 1) := by decide +kernel
theorem dX8_loses_96 : decode cX8_loses 96 = .ok (.iastore, 1) := by decide +kernel
theorem dX8_loses_97 : decode cX8_loses 97 = .ok (.iinc 1 1, 3) := by decide +kernel
theorem dX8_loses_100 : decode cX8_loses 100 = .ok (.goto (-98), 3) := by decide +kernel
theorem dX8_loses_103 : decode cX8_loses 103 = .ok (.return_, 1) := by decide +kernel
theorem dX8_isAhead_0 : decode cX8_isAhead 0 = .ok (.aload_n 0, 1) := by decide +kernel
theorem dX8_isAhead_1 : decode cX8_isAhead 1 = .ok (.iload_n 1, 1) := by decide +kernel
theorem dX8_isAhead_2 : decode cX8_isAhead 2 = .ok (.iconst 3, 1) := by decide +kernel
theorem dX8_isAhead_3 : decode cX8_isAhead 3 = .ok (.invokestatic 47, 3) := by decide +kernel
theorem dX8_isAhead_6 : decode cX8_isAhead 6 = .ok (.aload_n 0, 1) := by decide +kernel
theorem dX8_isAhead_7 : decode cX8_isAhead 7 = .ok (.iload_n 2, 1) := by decide +kernel
theorem dX8_isAhead_8 : decode cX8_isAhead 8 = .ok (.iconst 3, 1) := by decide +kernel
theorem dX8_isAhead_9 : decode cX8_isAhead 9 = .ok (.invokestatic 47, 3) := by decide +kernel
theorem dX8_isAhead_12 : decode cX8_isAhead 12 = .ok (.isub, 1) := by decide +kernel
theorem dX8_isAhead_13 : decode cX8_isAhead 13 = .ok (.istore_n 3, 1) := by decide +kernel
theorem dX8_isAhead_14 : decode cX8_isAhead 14 = .ok (.iload_n 3, 1) := by decide +kernel
theorem dX8_isAhead_15 : decode cX8_isAhead 15 = .ok (.ifCond .lt 32, 3) := by decide +kernel
theorem dX8_isAhead_18 : decode cX8_isAhead 18 = .ok (.iload_n 3, 1) := by decide +kernel
theorem dX8_isAhead_19 : decode cX8_isAhead 19 = .ok (.ifCond .ne 32, 3) := by decide +kernel
theorem dX8_isAhead_22 : decode cX8_isAhead 22 = .ok (.aload_n 0, 1) := by decide +kernel
theorem dX8_isAhead_23 : decode cX8_isAhead 23 = .ok (.bipush 10, 2) := by decide +kernel
theorem dX8_isAhead_25 : decode cX8_isAhead 25 = .ok (.aload_n 0, 1) := by decide +kernel
theorem dX8_isAhead_26 : decode cX8_isAhead 26 = .ok (.iload_n 1, 1) := by decide +kernel
theorem dX8_isAhead_27 : decode cX8_isAhead 27 = .ok (.iconst 0, 1) := by decide +kernel
theorem dX8_isAhead_28 : decode cX8_isAhead 28 = .ok (.invokestatic 47, 3) := by decide +kernel
theorem dX8_isAhead_31 : decode cX8_isAhead 31 = .ok (.iadd, 1) := by decide +kernel
theorem dX8_isAhead_32 : decode cX8_isAhead 32 = .ok (.iaload, 1) := by decide +kernel
theorem dX8_isAhead_33 : decode cX8_isAhead 33 = .ok (.aload_n 0, 1) := by decide +kernel
theorem dX8_isAhead_34 : decode cX8_isAhead 34 = .ok (.bipush 10, 2) := by decide +kernel
theorem dX8_isAhead_36 : decode cX8_isAhead 36 = .ok (.aload_n 0, 1) := by decide +kernel
theorem dX8_isAhead_37 : decode cX8_isAhead 37 = .ok (.iload_n 2, 1) := by decide +kernel
theorem dX8_isAhead_38 : decode cX8_isAhead 38 = .ok (.iconst 0, 1) := by decide +kernel
theorem dX8_isAhead_39 : decode cX8_isAhead 39 = .ok (.invokestatic 47, 3) := by decide +kernel
theorem dX8_isAhead_42 : decode cX8_isAhead 42 = .ok (.iadd, 1) := by decide +kernel
theorem dX8_isAhead_43 : decode cX8_isAhead 43 = .ok (.iaload, 1) := by decide +kernel
theorem dX8_isAhead_44 : decode cX8_isAhead 44 = .ok (.if_icmp .le 7, 3) := by decide +kernel
theorem dX8_isAhead_47 : decode cX8_isAhead 47 = .ok (.iconst 1, 1) := by decide +kernel
theorem dX8_isAhead_48 : decode cX8_isAhead 48 = .ok (.goto 4, 3) := by decide +kernel
theorem dX8_isAhead_51 : decode cX8_isAhead 51 = .ok (.iconst 0, 1) := by decide +kernel
theorem dX8_isAhead_52 : decode cX8_isAhead 52 = .ok (.ireturn, 1) := by decide +kernel
theorem dX8_nextField_0 : decode cX8_nextField 0 = .ok (.bipush (-6), 2) := by decide +kernel
theorem dX8_nextField_2 : decode cX8_nextField 2 = .ok (.istore_n 1, 1) := by decide +kernel
theorem dX8_nextField_3 : decode cX8_nextField 3 = .ok (.iconst 0, 1) := by decide +kernel
theorem dX8_nextField_4 : decode cX8_nextField 4 = .ok (.istore_n 2, 1) := by decide +kernel
theorem dX8_nextField_5 : decode cX8_nextField 5 = .ok (.iload_n 2, 1) := by decide +kernel
theorem dX8_nextField_6 : decode cX8_nextField 6 = .ok (.aload_n 0, 1) := by decide +kernel
theorem dX8_nextField_7 : decode cX8_nextField 7 = .ok (.iconst 1, 1) := by decide +kernel
theorem dX8_nextField_8 : decode cX8_nextField 8 = .ok (.iaload, 1) := by decide +kernel
theorem dX8_nextField_9 : decode cX8_nextField 9 = .ok (.if_icmp .ge 63, 3) := by decide +kernel
theorem dX8_nextField_12 : decode cX8_nextField 12 = .ok (.aload_n 0, 1) := by decide +kernel
theorem dX8_nextField_13 : decode cX8_nextField 13 = .ok (.iload_n 2, 1) := by decide +kernel
theorem dX8_nextField_14 : decode cX8_nextField 14 = .ok (.invokestatic 51, 3) := by decide +kernel
theorem dX8_nextField_17 : decode cX8_nextField 17 = .ok (.iconst 1, 1) := by decide +kernel
theorem dX8_nextField_18 : decode cX8_nextField 18 = .ok (.if_icmp .ne 21, 3) := by decide +kernel
theorem dX8_nextField_21 : decode cX8_nextField 21 = .ok (.aload_n 0, 1) := by decide +kernel
theorem dX8_nextField_22 : decode cX8_nextField 22 = .ok (.bipush 10, 2) := by decide +kernel
theorem dX8_nextField_24 : decode cX8_nextField 24 = .ok (.aload_n 0, 1) := by decide +kernel
theorem dX8_nextField_25 : decode cX8_nextField 25 = .ok (.iload_n 2, 1) := by decide +kernel
theorem dX8_nextField_26 : decode cX8_nextField 26 = .ok (.iconst 0, 1) := by decide +kernel
theorem dX8_nextField_27 : decode cX8_nextField 27 = .ok (.invokestatic 47, 3) := by decide +kernel
theorem dX8_nextField_30 : decode cX8_nextField 30 = .ok (.iadd, 1) := by decide +kernel
theorem dX8_nextField_31 : decode cX8_nextField 31 = .ok (.iaload, 1) := by decide +kernel
theorem dX8_nextField_32 : decode cX8_nextField 32 = .ok (.ifCond .le 7, 3) := by decide +kernel
theorem dX8_nextField_35 : decode cX8_nextField 35 = .ok (.iconst 1, 1) := by decide +kernel
theorem dX8_nextField_36 : decode cX8_nextField 36 = .ok (.goto 4, 3) := by decide +kernel
theorem dX8_nextField_39 : decode cX8_nextField 39 = .ok (.iconst 0, 1) := by decide +kernel
theorem dX8_nextField_40 : decode cX8_nextField 40 = .ok (.istore_n 3, 1) := by decide +kernel
theorem dX8_nextField_41 : decode cX8_nextField 41 = .ok (.iload_n 3, 1) := by decide +kernel
theorem dX8_nextField_42 : decode cX8_nextField 42 = .ok (.ifCond .eq 22, 3) := by decide +kernel
theorem dX8_nextField_45 : decode cX8_nextField 45 = .ok (.iload_n 1, 1) := by decide +kernel
theorem dX8_nextField_46 : decode cX8_nextField 46 = .ok (.bipush (-6), 2) := by decide +kernel
theorem dX8_nextField_48 : decode cX8_nextField 48 = .ok (.if_icmp .eq 12, 3) := by decide +kernel
theorem dX8_nextField_51 : decode cX8_nextField 51 = .ok (.aload_n 0, 1) := by decide +kernel
theorem dX8_nextField_52 : decode cX8_nextField 52 = .ok (.iload_n 2, 1) := by decide +kernel
theorem dX8_nextField_53 : decode cX8_nextField 53 = .ok (.iload_n 1, 1) := by decide +kernel
theorem dX8_nextField_54 : decode cX8_nextField 54 = .ok (.invokestatic 55, 3) := by decide +kernel
theorem dX8_nextField_57 : decode cX8_nextField 57 = .ok (.ifCond .eq 7, 3) := by decide +kernel
theorem dX8_nextField_60 : decode cX8_nextField 60 = .ok (.iload_n 2, 1) := by decide +kernel
theorem dX8_nextField_61 : decode cX8_nextField 61 = .ok (.goto 4, 3) := by decide +kernel
theorem dX8_nextField_64 : decode cX8_nextField 64 = .ok (.iload_n 1, 1) := by decide +kernel
theorem dX8_nextField_65 : decode cX8_nextField 65 = .ok (.istore_n 1, 1) := by decide +kernel
theorem dX8_nextField_66 : decode cX8_nextField 66 = .ok (.iinc 2 1, 3) := by decide +kernel
theorem dX8_nextField_69 : decode cX8_nextField 69 = .ok (.goto (-64), 3) := by decide +kernel
theorem dX8_nextField_72 : decode cX8_nextField 72 = .ok (.aload_n 0, 1) := by decide +kernel
theorem dX8_nextField_73 : decode cX8_nextField 73 = .ok (.invokestatic 59, 3) := by decide +kernel
theorem dX8_nextField_76 : decode cX8_nextField 76 = .ok (.aload_n 0, 1) := by decide +kernel
theorem dX8_nextField_77 : decode cX8_nextField 77 = .ok (.bipush 6, 2) := by decide +kernel
theorem dX8_nextField_79 : decode cX8_nextField 79 = .ok (.iaload, 1) := by decide +kernel
theorem dX8_nextField_80 : decode cX8_nextField 80 = .ok (.if_icmp .ge 7, 3) := by decide +kernel
theorem dX8_nextField_83 : decode cX8_nextField 83 = .ok (.iload_n 1, 1) := by decide +kernel
theorem dX8_nextField_84 : decode cX8_nextField 84 = .ok (.goto 5, 3) := by decide +kernel
theorem dX8_nextField_87 : decode cX8_nextField 87 = .ok (.bipush (-6), 2) := by decide +kernel
theorem dX8_nextField_89 : decode cX8_nextField 89 = .ok (.ireturn, 1) := by decide +kernel
theorem dX8_least_0 : decode cX8_least 0 = .ok (.iload_n 0, 1) := by decide +kernel
theorem dX8_least_1 : decode cX8_least 1 = .ok (.iload_n 1, 1) := by decide +kernel
theorem dX8_least_2 : decode cX8_least 2 = .ok (.if_icmp .ge 7, 3) := by decide +kernel
theorem dX8_least_5 : decode cX8_least 5 = .ok (.iload_n 0, 1) := by decide +kernel
theorem dX8_least_6 : decode cX8_least 6 = .ok (.goto 4, 3) := by decide +kernel
theorem dX8_least_9 : decode cX8_least 9 = .ok (.iload_n 1, 1) := by decide +kernel
theorem dX8_least_10 : decode cX8_least 10 = .ok (.ireturn, 1) := by decide +kernel
theorem dX8_brings_0 : decode cX8_brings 0 = .ok (.aload_n 0, 1) := by decide +kernel
theorem dX8_brings_1 : decode cX8_brings 1 = .ok (.iload_n 1, 1) := by decide +kernel
theorem dX8_brings_2 : decode cX8_brings 2 = .ok (.iconst 0, 1) := by decide +kernel
theorem dX8_brings_3 : decode cX8_brings 3 = .ok (.invokestatic 47, 3) := by decide +kernel
theorem dX8_brings_6 : decode cX8_brings 6 = .ok (.istore_n 2, 1) := by decide +kernel
theorem dX8_brings_7 : decode cX8_brings 7 = .ok (.aload_n 0, 1) := by decide +kernel
theorem dX8_brings_8 : decode cX8_brings 8 = .ok (.iconst 4, 1) := by decide +kernel
theorem dX8_brings_9 : decode cX8_brings 9 = .ok (.iaload, 1) := by decide +kernel
theorem dX8_brings_10 : decode cX8_brings 10 = .ok (.aload_n 0, 1) := by decide +kernel
theorem dX8_brings_11 : decode cX8_brings 11 = .ok (.iload_n 1, 1) := by decide +kernel
theorem dX8_brings_12 : decode cX8_brings 12 = .ok (.iconst 4, 1) := by decide +kernel
theorem dX8_brings_13 : decode cX8_brings 13 = .ok (.invokestatic 47, 3) := by decide +kernel
theorem dX8_brings_16 : decode cX8_brings 16 = .ok (.invokestatic 63, 3) := by decide +kernel
theorem dX8_brings_19 : decode cX8_brings 19 = .ok (.aload_n 0, 1) := by decide +kernel
theorem dX8_brings_20 : decode cX8_brings 20 = .ok (.bipush 10, 2) := by decide +kernel
theorem dX8_brings_22 : decode cX8_brings 22 = .ok (.iload_n 2, 1) := by decide +kernel
theorem dX8_brings_23 : decode cX8_brings 23 = .ok (.iadd, 1) := by decide +kernel
theorem dX8_brings_24 : decode cX8_brings 24 = .ok (.iaload, 1) := by decide +kernel
theorem dX8_brings_25 : decode cX8_brings 25 = .ok (.aload_n 0, 1) := by decide +kernel
theorem dX8_brings_26 : decode cX8_brings 26 = .ok (.bipush 6, 2) := by decide +kernel
theorem dX8_brings_28 : decode cX8_brings 28 = .ok (.iaload, 1) := by decide +kernel
theorem dX8_brings_29 : decode cX8_brings 29 = .ok (.aload_n 0, 1) := by decide +kernel
theorem dX8_brings_30 : decode cX8_brings 30 = .ok (.invokestatic 59, 3) := by decide +kernel
theorem dX8_brings_33 : decode cX8_brings 33 = .ok (.isub, 1) := by decide +kernel
theorem dX8_brings_34 : decode cX8_brings 34 = .ok (.invokestatic 63, 3) := by decide +kernel
theorem dX8_brings_37 : decode cX8_brings 37 = .ok (.invokestatic 63, 3) := by decide +kernel
theorem dX8_brings_40 : decode cX8_brings 40 = .ok (.istore_n 3, 1) := by decide +kernel
theorem dX8_brings_41 : decode cX8_brings 41 = .ok (.aload_n 0, 1) := by decide +kernel
theorem dX8_brings_42 : decode cX8_brings 42 = .ok (.bipush 56, 2) := by decide +kernel
theorem dX8_brings_44 : decode cX8_brings 44 = .ok (.bipush 8, 2) := by decide +kernel
theorem dX8_brings_46 : decode cX8_brings 46 = .ok (.iload_n 1, 1) := by decide +kernel
theorem dX8_brings_47 : decode cX8_brings 47 = .ok (.imul, 1) := by decide +kernel
theorem dX8_brings_48 : decode cX8_brings 48 = .ok (.iadd, 1) := by decide +kernel
theorem dX8_brings_49 : decode cX8_brings 49 = .ok (.iconst 4, 1) := by decide +kernel
theorem dX8_brings_50 : decode cX8_brings 50 = .ok (.iadd, 1) := by decide +kernel
theorem dX8_brings_51 : decode cX8_brings 51 = .ok (.dup2, 1) := by decide +kernel
theorem dX8_brings_52 : decode cX8_brings 52 = .ok (.iaload, 1) := by decide +kernel
theorem dX8_brings_53 : decode cX8_brings 53 = .ok (.iload_n 3, 1) := by decide +kernel
theorem dX8_brings_54 : decode cX8_brings 54 = .ok (.isub, 1) := by decide +kernel
theorem dX8_brings_55 : decode cX8_brings 55 = .ok (.iastore, 1) := by decide +kernel
theorem dX8_brings_56 : decode cX8_brings 56 = .ok (.aload_n 0, 1) := by decide +kernel
theorem dX8_brings_57 : decode cX8_brings 57 = .ok (.bipush 56, 2) := by decide +kernel
theorem dX8_brings_59 : decode cX8_brings 59 = .ok (.bipush 8, 2) := by decide +kernel
theorem dX8_brings_61 : decode cX8_brings 61 = .ok (.iload_n 1, 1) := by decide +kernel
theorem dX8_brings_62 : decode cX8_brings 62 = .ok (.imul, 1) := by decide +kernel
theorem dX8_brings_63 : decode cX8_brings 63 = .ok (.iadd, 1) := by decide +kernel
theorem dX8_brings_64 : decode cX8_brings 64 = .ok (.iconst 5, 1) := by decide +kernel
theorem dX8_brings_65 : decode cX8_brings 65 = .ok (.iadd, 1) := by decide +kernel
theorem dX8_brings_66 : decode cX8_brings 66 = .ok (.dup2, 1) := by decide +kernel
theorem dX8_brings_67 : decode cX8_brings 67 = .ok (.iaload, 1) := by decide +kernel
theorem dX8_brings_68 : decode cX8_brings 68 = .ok (.iload_n 3, 1) := by decide +kernel
theorem dX8_brings_69 : decode cX8_brings 69 = .ok (.iadd, 1) := by decide +kernel
theorem dX8_brings_70 : decode cX8_brings 70 = .ok (.iastore, 1) := by decide +kernel
theorem dX8_brings_71 : decode cX8_brings 71 = .ok (.aload_n 0, 1) := by decide +kernel
theorem dX8_brings_72 : decode cX8_brings 72 = .ok (.bipush 10, 2) := by decide +kernel
theorem dX8_brings_74 : decode cX8_brings 74 = .ok (.iload_n 2, 1) := by decide +kernel
theorem dX8_brings_75 : decode cX8_brings 75 = .ok (.iadd, 1) := by decide +kernel
theorem dX8_brings_76 : decode cX8_brings 76 = .ok (.dup2, 1) := by decide +kernel
theorem dX8_brings_77 : decode cX8_brings 77 = .ok (.iaload, 1) := by decide +kernel
theorem dX8_brings_78 : decode cX8_brings 78 = .ok (.iload_n 3, 1) := by decide +kernel
theorem dX8_brings_79 : decode cX8_brings 79 = .ok (.isub, 1) := by decide +kernel
theorem dX8_brings_80 : decode cX8_brings 80 = .ok (.iastore, 1) := by decide +kernel
theorem dX8_brings_81 : decode cX8_brings 81 = .ok (.aload_n 0, 1) := by decide +kernel
theorem dX8_brings_82 : decode cX8_brings 82 = .ok (.bipush 32, 2) := by decide +kernel
theorem dX8_brings_84 : decode cX8_brings 84 = .ok (.iconst 4, 1) := by decide +kernel
theorem dX8_brings_85 : decode cX8_brings 85 = .ok (.iload_n 2, 1) := by decide +kernel
theorem dX8_brings_86 : decode cX8_brings 86 = .ok (.imul, 1) := by decide +kernel
theorem dX8_brings_87 : decode cX8_brings 87 = .ok (.iadd, 1) := by decide +kernel
theorem dX8_brings_88 : decode cX8_brings 88 = .ok (.dup2, 1) := by decide +kernel
theorem dX8_brings_89 : decode cX8_brings 89 = .ok (.iaload, 1) := by decide +kernel
theorem dX8_brings_90 : decode cX8_brings 90 = .ok (.iload_n 3, 1) := by decide +kernel
theorem dX8_brings_91 : decode cX8_brings 91 = .ok (.iadd, 1) := by decide +kernel
theorem dX8_brings_92 : decode cX8_brings 92 = .ok (.iastore, 1) := by decide +kernel
theorem dX8_brings_93 : decode cX8_brings 93 = .ok (.sipush 297, 3) := by decide +kernel
theorem dX8_brings_96 : decode cX8_brings 96 = .ok (.iconst 3, 1) := by decide +kernel
theorem dX8_brings_97 : decode cX8_brings 97 = .ok (.aload_n 0, 1) := by decide +kernel
theorem dX8_brings_98 : decode cX8_brings 98 = .ok (.sipush 296, 3) := by decide +kernel
theorem dX8_brings_101 : decode cX8_brings 101 = .ok (.iaload, 1) := by decide +kernel
theorem dX8_brings_102 : decode cX8_brings 102 = .ok (.imul, 1) := by decide +kernel
theorem dX8_brings_103 : decode cX8_brings 103 = .ok (.iadd, 1) := by decide +kernel
theorem dX8_brings_104 : decode cX8_brings 104 = .ok (.istore 4, 2) := by decide +kernel
theorem dX8_brings_106 : decode cX8_brings 106 = .ok (.aload_n 0, 1) := by decide +kernel
theorem dX8_brings_107 : decode cX8_brings 107 = .ok (.iload 4, 2) := by decide +kernel
theorem dX8_brings_109 : decode cX8_brings 109 = .ok (.iload_n 1, 1) := by decide +kernel
theorem dX8_brings_110 : decode cX8_brings 110 = .ok (.iastore, 1) := by decide +kernel
theorem dX8_brings_111 : decode cX8_brings 111 = .ok (.aload_n 0, 1) := by decide +kernel
theorem dX8_brings_112 : decode cX8_brings 112 = .ok (.iload 4, 2) := by decide +kernel
theorem dX8_brings_114 : decode cX8_brings 114 = .ok (.iconst 1, 1) := by decide +kernel
theorem dX8_brings_115 : decode cX8_brings 115 = .ok (.iadd, 1) := by decide +kernel
theorem dX8_brings_116 : decode cX8_brings 116 = .ok (.iload_n 3, 1) := by decide +kernel
theorem dX8_brings_117 : decode cX8_brings 117 = .ok (.iastore, 1) := by decide +kernel
theorem dX8_brings_118 : decode cX8_brings 118 = .ok (.aload_n 0, 1) := by decide +kernel
theorem dX8_brings_119 : decode cX8_brings 119 = .ok (.iload 4, 2) := by decide +kernel
theorem dX8_brings_121 : decode cX8_brings 121 = .ok (.iconst 2, 1) := by decide +kernel
theorem dX8_brings_122 : decode cX8_brings 122 = .ok (.iadd, 1) := by decide +kernel
theorem dX8_brings_123 : decode cX8_brings 123 = .ok (.aload_n 0, 1) := by decide +kernel
theorem dX8_brings_124 : decode cX8_brings 124 = .ok (.iconst 0, 1) := by decide +kernel
theorem dX8_brings_125 : decode cX8_brings 125 = .ok (.iaload, 1) := by decide +kernel
theorem dX8_brings_126 : decode cX8_brings 126 = .ok (.iastore, 1) := by decide +kernel
theorem dX8_brings_127 : decode cX8_brings 127 = .ok (.aload_n 0, 1) := by decide +kernel
theorem dX8_brings_128 : decode cX8_brings 128 = .ok (.sipush 296, 3) := by decide +kernel
theorem dX8_brings_131 : decode cX8_brings 131 = .ok (.dup2, 1) := by decide +kernel
theorem dX8_brings_132 : decode cX8_brings 132 = .ok (.iaload, 1) := by decide +kernel
theorem dX8_brings_133 : decode cX8_brings 133 = .ok (.iconst 1, 1) := by decide +kernel
theorem dX8_brings_134 : decode cX8_brings 134 = .ok (.iadd, 1) := by decide +kernel
theorem dX8_brings_135 : decode cX8_brings 135 = .ok (.iastore, 1) := by decide +kernel
theorem dX8_brings_136 : decode cX8_brings 136 = .ok (.aload_n 0, 1) := by decide +kernel
theorem dX8_brings_137 : decode cX8_brings 137 = .ok (.bipush 30, 2) := by decide +kernel
theorem dX8_brings_139 : decode cX8_brings 139 = .ok (.dup2, 1) := by decide +kernel
theorem dX8_brings_140 : decode cX8_brings 140 = .ok (.iaload, 1) := by decide +kernel
theorem dX8_brings_141 : decode cX8_brings 141 = .ok (.iconst 1, 1) := by decide +kernel
theorem dX8_brings_142 : decode cX8_brings 142 = .ok (.iadd, 1) := by decide +kernel
theorem dX8_brings_143 : decode cX8_brings 143 = .ok (.iastore, 1) := by decide +kernel
theorem dX8_brings_144 : decode cX8_brings 144 = .ok (.return_, 1) := by decide +kernel
theorem dX8_crushes_0 : decode cX8_crushes 0 = .ok (.aload_n 0, 1) := by decide +kernel
theorem dX8_crushes_1 : decode cX8_crushes 1 = .ok (.iload_n 1, 1) := by decide +kernel
theorem dX8_crushes_2 : decode cX8_crushes 2 = .ok (.iconst 0, 1) := by decide +kernel
theorem dX8_crushes_3 : decode cX8_crushes 3 = .ok (.invokestatic 47, 3) := by decide +kernel
theorem dX8_crushes_6 : decode cX8_crushes 6 = .ok (.istore_n 3, 1) := by decide +kernel
theorem dX8_crushes_7 : decode cX8_crushes 7 = .ok (.aload_n 0, 1) := by decide +kernel
theorem dX8_crushes_8 : decode cX8_crushes 8 = .ok (.iload_n 1, 1) := by decide +kernel
theorem dX8_crushes_9 : decode cX8_crushes 9 = .ok (.invokestatic 67, 3) := by decide +kernel
theorem dX8_crushes_12 : decode cX8_crushes 12 = .ok (.istore 4, 2) := by decide +kernel
theorem dX8_crushes_14 : decode cX8_crushes 14 = .ok (.iload_n 2, 1) := by decide +kernel
theorem dX8_crushes_15 : decode cX8_crushes 15 = .ok (.iload 4, 2) := by decide +kernel
theorem dX8_crushes_17 : decode cX8_crushes 17 = .ok (.imul, 1) := by decide +kernel
theorem dX8_crushes_18 : decode cX8_crushes 18 = .ok (.aload_n 0, 1) := by decide +kernel
theorem dX8_crushes_19 : decode cX8_crushes 19 = .ok (.bipush 9, 2) := by decide +kernel
theorem dX8_crushes_21 : decode cX8_crushes 21 = .ok (.iaload, 1) := by decide +kernel
theorem dX8_crushes_22 : decode cX8_crushes 22 = .ok (.imul, 1) := by decide +kernel
theorem dX8_crushes_23 : decode cX8_crushes 23 = .ok (.bipush 100, 2) := by decide +kernel
theorem dX8_crushes_25 : decode cX8_crushes 25 = .ok (.idiv, 1) := by decide +kernel
theorem dX8_crushes_26 : decode cX8_crushes 26 = .ok (.istore 5, 2) := by decide +kernel
theorem dX8_crushes_28 : decode cX8_crushes 28 = .ok (.aload_n 0, 1) := by decide +kernel
theorem dX8_crushes_29 : decode cX8_crushes 29 = .ok (.bipush 56, 2) := by decide +kernel
theorem dX8_crushes_31 : decode cX8_crushes 31 = .ok (.bipush 8, 2) := by decide +kernel
theorem dX8_crushes_33 : decode cX8_crushes 33 = .ok (.iload_n 1, 1) := by decide +kernel
theorem dX8_crushes_34 : decode cX8_crushes 34 = .ok (.imul, 1) := by decide +kernel
theorem dX8_crushes_35 : decode cX8_crushes 35 = .ok (.iadd, 1) := by decide +kernel
theorem dX8_crushes_36 : decode cX8_crushes 36 = .ok (.iconst 5, 1) := by decide +kernel
theorem dX8_crushes_37 : decode cX8_crushes 37 = .ok (.iadd, 1) := by decide +kernel
theorem dX8_crushes_38 : decode cX8_crushes 38 = .ok (.dup2, 1) := by decide +kernel
theorem dX8_crushes_39 : decode cX8_crushes 39 = .ok (.iaload, 1) := by decide +kernel
theorem dX8_crushes_40 : decode cX8_crushes 40 = .ok (.iload_n 2, 1) := by decide +kernel
theorem dX8_crushes_41 : decode cX8_crushes 41 = .ok (.isub, 1) := by decide +kernel
theorem dX8_crushes_42 : decode cX8_crushes 42 = .ok (.iastore, 1) := by decide +kernel
theorem dX8_crushes_43 : decode cX8_crushes 43 = .ok (.aload_n 0, 1) := by decide +kernel
theorem dX8_crushes_44 : decode cX8_crushes 44 = .ok (.bipush 56, 2) := by decide +kernel
theorem dX8_crushes_46 : decode cX8_crushes 46 = .ok (.bipush 8, 2) := by decide +kernel
theorem dX8_crushes_48 : decode cX8_crushes 48 = .ok (.iload_n 1, 1) := by decide +kernel
theorem dX8_crushes_49 : decode cX8_crushes 49 = .ok (.imul, 1) := by decide +kernel
theorem dX8_crushes_50 : decode cX8_crushes 50 = .ok (.iadd, 1) := by decide +kernel
theorem dX8_crushes_51 : decode cX8_crushes 51 = .ok (.bipush 6, 2) := by decide +kernel
theorem dX8_crushes_53 : decode cX8_crushes 53 = .ok (.iadd, 1) := by decide +kernel
theorem dX8_crushes_54 : decode cX8_crushes 54 = .ok (.dup2, 1) := by decide +kernel
theorem dX8_crushes_55 : decode cX8_crushes 55 = .ok (.iaload, 1) := by decide +kernel
theorem dX8_crushes_56 : decode cX8_crushes 56 = .ok (.iload_n 2, 1) := by decide +kernel
theorem dX8_crushes_57 : decode cX8_crushes 57 = .ok (.iadd, 1) := by decide +kernel
theorem dX8_crushes_58 : decode cX8_crushes 58 = .ok (.iastore, 1) := by decide +kernel
theorem dX8_crushes_59 : decode cX8_crushes 59 = .ok (.aload_n 0, 1) := by decide +kernel
theorem dX8_crushes_60 : decode cX8_crushes 60 = .ok (.bipush 26, 2) := by decide +kernel
theorem dX8_crushes_62 : decode cX8_crushes 62 = .ok (.dup2, 1) := by decide +kernel
theorem dX8_crushes_63 : decode cX8_crushes 63 = .ok (.iaload, 1) := by decide +kernel
theorem dX8_crushes_64 : decode cX8_crushes 64 = .ok (.iload_n 2, 1) := by decide +kernel
theorem dX8_crushes_65 : decode cX8_crushes 65 = .ok (.iadd, 1) := by decide +kernel
theorem dX8_crushes_66 : decode cX8_crushes 66 = .ok (.iastore, 1) := by decide +kernel
theorem dX8_crushes_67 : decode cX8_crushes 67 = .ok (.aload_n 0, 1) := by decide +kernel
theorem dX8_crushes_68 : decode cX8_crushes 68 = .ok (.bipush 27, 2) := by decide +kernel
theorem dX8_crushes_70 : decode cX8_crushes 70 = .ok (.dup2, 1) := by decide +kernel
theorem dX8_crushes_71 : decode cX8_crushes 71 = .ok (.iaload, 1) := by decide +kernel
theorem dX8_crushes_72 : decode cX8_crushes 72 = .ok (.iload_n 2, 1) := by decide +kernel
theorem dX8_crushes_73 : decode cX8_crushes 73 = .ok (.iload 4, 2) := by decide +kernel
theorem dX8_crushes_75 : decode cX8_crushes 75 = .ok (.imul, 1) := by decide +kernel
theorem dX8_crushes_76 : decode cX8_crushes 76 = .ok (.bipush 100, 2) := by decide +kernel
theorem dX8_crushes_78 : decode cX8_crushes 78 = .ok (.idiv, 1) := by decide +kernel
theorem dX8_crushes_79 : decode cX8_crushes 79 = .ok (.iadd, 1) := by decide +kernel
theorem dX8_crushes_80 : decode cX8_crushes 80 = .ok (.iastore, 1) := by decide +kernel
theorem dX8_crushes_81 : decode cX8_crushes 81 = .ok (.aload_n 0, 1) := by decide +kernel
theorem dX8_crushes_82 : decode cX8_crushes 82 = .ok (.bipush 29, 2) := by decide +kernel
theorem dX8_crushes_84 : decode cX8_crushes 84 = .ok (.dup2, 1) := by decide +kernel
theorem dX8_crushes_85 : decode cX8_crushes 85 = .ok (.iaload, 1) := by decide +kernel
theorem dX8_crushes_86 : decode cX8_crushes 86 = .ok (.iload 5, 2) := by decide +kernel
theorem dX8_crushes_88 : decode cX8_crushes 88 = .ok (.iadd, 1) := by decide +kernel
theorem dX8_crushes_89 : decode cX8_crushes 89 = .ok (.iastore, 1) := by decide +kernel
theorem dX8_crushes_90 : decode cX8_crushes 90 = .ok (.aload_n 0, 1) := by decide +kernel
theorem dX8_crushes_91 : decode cX8_crushes 91 = .ok (.bipush 32, 2) := by decide +kernel
theorem dX8_crushes_93 : decode cX8_crushes 93 = .ok (.iconst 4, 1) := by decide +kernel
theorem dX8_crushes_94 : decode cX8_crushes 94 = .ok (.iload_n 3, 1) := by decide +kernel
theorem dX8_crushes_95 : decode cX8_crushes 95 = .ok (.imul, 1) := by decide +kernel
theorem dX8_crushes_96 : decode cX8_crushes 96 = .ok (.iadd, 1) := by decide +kernel
theorem dX8_crushes_97 : decode cX8_crushes 97 = .ok (.iconst 1, 1) := by decide +kernel
theorem dX8_crushes_98 : decode cX8_crushes 98 = .ok (.iadd, 1) := by decide +kernel
theorem dX8_crushes_99 : decode cX8_crushes 99 = .ok (.dup2, 1) := by decide +kernel
theorem dX8_crushes_100 : decode cX8_crushes 100 = .ok (.iaload, 1) := by decide +kernel
theorem dX8_crushes_101 : decode cX8_crushes 101 = .ok (.iload_n 2, 1) := by decide +kernel
theorem dX8_crushes_102 : decode cX8_crushes 102 = .ok (.iadd, 1) := by decide +kernel
theorem dX8_crushes_103 : decode cX8_crushes 103 = .ok (.iastore, 1) := by decide +kernel
theorem dX8_crushes_104 : decode cX8_crushes 104 = .ok (.aload_n 0, 1) := by decide +kernel
theorem dX8_crushes_105 : decode cX8_crushes 105 = .ok (.bipush 32, 2) := by decide +kernel
theorem dX8_crushes_107 : decode cX8_crushes 107 = .ok (.iconst 4, 1) := by decide +kernel
theorem dX8_crushes_108 : decode cX8_crushes 108 = .ok (.iload_n 3, 1) := by decide +kernel
theorem dX8_crushes_109 : decode cX8_crushes 109 = .ok (.imul, 1) := by decide +kernel
theorem dX8_crushes_110 : decode cX8_crushes 110 = .ok (.iadd, 1) := by decide +kernel
theorem dX8_crushes_111 : decode cX8_crushes 111 = .ok (.iconst 3, 1) := by decide +kernel
theorem dX8_crushes_112 : decode cX8_crushes 112 = .ok (.iadd, 1) := by decide +kernel
theorem dX8_crushes_113 : decode cX8_crushes 113 = .ok (.dup2, 1) := by decide +kernel
theorem dX8_crushes_114 : decode cX8_crushes 114 = .ok (.iaload, 1) := by decide +kernel
theorem dX8_crushes_115 : decode cX8_crushes 115 = .ok (.iload 5, 2) := by decide +kernel
theorem dX8_crushes_117 : decode cX8_crushes 117 = .ok (.iadd, 1) := by decide +kernel
theorem dX8_crushes_118 : decode cX8_crushes 118 = .ok (.iastore, 1) := by decide +kernel
theorem dX8_crushes_119 : decode cX8_crushes 119 = .ok (.return_, 1) := by decide +kernel
theorem dX8_mills_0 : decode cX8_mills 0 = .ok (.aload_n 0, 1) := by decide +kernel
theorem dX8_mills_1 : decode cX8_mills 1 = .ok (.iconst 5, 1) := by decide +kernel
theorem dX8_mills_2 : decode cX8_mills 2 = .ok (.iaload, 1) := by decide +kernel
theorem dX8_mills_3 : decode cX8_mills 3 = .ok (.istore_n 1, 1) := by decide +kernel
theorem dX8_mills_4 : decode cX8_mills 4 = .ok (.iconst 0, 1) := by decide +kernel
theorem dX8_mills_5 : decode cX8_mills 5 = .ok (.istore_n 2, 1) := by decide +kernel
theorem dX8_mills_6 : decode cX8_mills 6 = .ok (.iload_n 1, 1) := by decide +kernel
theorem dX8_mills_7 : decode cX8_mills 7 = .ok (.ifCond .le 86, 3) := by decide +kernel
theorem dX8_mills_10 : decode cX8_mills 10 = .ok (.iload_n 2, 1) := by decide +kernel
theorem dX8_mills_11 : decode cX8_mills 11 = .ok (.aload_n 0, 1) := by decide +kernel
theorem dX8_mills_12 : decode cX8_mills 12 = .ok (.sipush 296, 3) := by decide +kernel
theorem dX8_mills_15 : decode cX8_mills 15 = .ok (.iaload, 1) := by decide +kernel
theorem dX8_mills_16 : decode cX8_mills 16 = .ok (.if_icmp .ge 77, 3) := by decide +kernel
theorem dX8_mills_19 : decode cX8_mills 19 = .ok (.iload_n 1, 1) := by decide +kernel
theorem dX8_mills_20 : decode cX8_mills 20 = .ok (.aload_n 0, 1) := by decide +kernel
theorem dX8_mills_21 : decode cX8_mills 21 = .ok (.sipush 297, 3) := by decide +kernel
theorem dX8_mills_24 : decode cX8_mills 24 = .ok (.iconst 3, 1) := by decide +kernel
theorem dX8_mills_25 : decode cX8_mills 25 = .ok (.iload_n 2, 1) := by decide +kernel
theorem dX8_mills_26 : decode cX8_mills 26 = .ok (.imul, 1) := by decide +kernel
theorem dX8_mills_27 : decode cX8_mills 27 = .ok (.iadd, 1) := by decide +kernel
theorem dX8_mills_28 : decode cX8_mills 28 = .ok (.iconst 1, 1) := by decide +kernel
theorem dX8_mills_29 : decode cX8_mills 29 = .ok (.iadd, 1) := by decide +kernel
theorem dX8_mills_30 : decode cX8_mills 30 = .ok (.iaload, 1) := by decide +kernel
theorem dX8_mills_31 : decode cX8_mills 31 = .ok (.invokestatic 63, 3) := by decide +kernel
theorem dX8_mills_34 : decode cX8_mills 34 = .ok (.istore_n 3, 1) := by decide +kernel
theorem dX8_mills_35 : decode cX8_mills 35 = .ok (.aload_n 0, 1) := by decide +kernel
theorem dX8_mills_36 : decode cX8_mills 36 = .ok (.aload_n 0, 1) := by decide +kernel
theorem dX8_mills_37 : decode cX8_mills 37 = .ok (.sipush 297, 3) := by decide +kernel
theorem dX8_mills_40 : decode cX8_mills 40 = .ok (.iconst 3, 1) := by decide +kernel
theorem dX8_mills_41 : decode cX8_mills 41 = .ok (.iload_n 2, 1) := by decide +kernel
theorem dX8_mills_42 : decode cX8_mills 42 = .ok (.imul, 1) := by decide +kernel
theorem dX8_mills_43 : decode cX8_mills 43 = .ok (.iadd, 1) := by decide +kernel
theorem dX8_mills_44 : decode cX8_mills 44 = .ok (.iaload, 1) := by decide +kernel
theorem dX8_mills_45 : decode cX8_mills 45 = .ok (.iload_n 3, 1) := by decide +kernel
theorem dX8_mills_46 : decode cX8_mills 46 = .ok (.invokestatic 70, 3) := by decide +kernel
theorem dX8_mills_49 : decode cX8_mills 49 = .ok (.aload_n 0, 1) := by decide +kernel
theorem dX8_mills_50 : decode cX8_mills 50 = .ok (.sipush 297, 3) := by decide +kernel
theorem dX8_mills_53 : decode cX8_mills 53 = .ok (.iconst 3, 1) := by decide +kernel
theorem dX8_mills_54 : decode cX8_mills 54 = .ok (.iload_n 2, 1) := by decide +kernel
theorem dX8_mills_55 : decode cX8_mills 55 = .ok (.imul, 1) := by decide +kernel
theorem dX8_mills_56 : decode cX8_mills 56 = .ok (.iadd, 1) := by decide +kernel
theorem dX8_mills_57 : decode cX8_mills 57 = .ok (.iconst 1, 1) := by decide +kernel
theorem dX8_mills_58 : decode cX8_mills 58 = .ok (.iadd, 1) := by decide +kernel
theorem dX8_mills_59 : decode cX8_mills 59 = .ok (.dup2, 1) := by decide +kernel
theorem dX8_mills_60 : decode cX8_mills 60 = .ok (.iaload, 1) := by decide +kernel
theorem dX8_mills_61 : decode cX8_mills 61 = .ok (.iload_n 3, 1) := by decide +kernel
theorem dX8_mills_62 : decode cX8_mills 62 = .ok (.isub, 1) := by decide +kernel
theorem dX8_mills_63 : decode cX8_mills 63 = .ok (.iastore, 1) := by decide +kernel
theorem dX8_mills_64 : decode cX8_mills 64 = .ok (.iload_n 1, 1) := by decide +kernel
theorem dX8_mills_65 : decode cX8_mills 65 = .ok (.iload_n 3, 1) := by decide +kernel
theorem dX8_mills_66 : decode cX8_mills 66 = .ok (.isub, 1) := by decide +kernel
theorem dX8_mills_67 : decode cX8_mills 67 = .ok (.istore_n 1, 1) := by decide +kernel
theorem dX8_mills_68 : decode cX8_mills 68 = .ok (.iload_n 2, 1) := by decide +kernel
theorem dX8_mills_69 : decode cX8_mills 69 = .ok (.aload_n 0, 1) := by decide +kernel
theorem dX8_mills_70 : decode cX8_mills 70 = .ok (.sipush 297, 3) := by decide +kernel
theorem dX8_mills_73 : decode cX8_mills 73 = .ok (.iconst 3, 1) := by decide +kernel
theorem dX8_mills_74 : decode cX8_mills 74 = .ok (.iload_n 2, 1) := by decide +kernel
theorem dX8_mills_75 : decode cX8_mills 75 = .ok (.imul, 1) := by decide +kernel
theorem dX8_mills_76 : decode cX8_mills 76 = .ok (.iadd, 1) := by decide +kernel
theorem dX8_mills_77 : decode cX8_mills 77 = .ok (.iconst 1, 1) := by decide +kernel
theorem dX8_mills_78 : decode cX8_mills 78 = .ok (.iadd, 1) := by decide +kernel
theorem dX8_mills_79 : decode cX8_mills 79 = .ok (.iaload, 1) := by decide +kernel
theorem dX8_mills_80 : decode cX8_mills 80 = .ok (.ifCond .ne 7, 3) := by decide +kernel
theorem dX8_mills_83 : decode cX8_mills 83 = .ok (.iconst 1, 1) := by decide +kernel
theorem dX8_mills_84 : decode cX8_mills 84 = .ok (.goto 4, 3) := by decide +kernel
theorem dX8_mills_87 : decode cX8_mills 87 = .ok (.iconst 0, 1) := by decide +kernel
theorem dX8_mills_88 : decode cX8_mills 88 = .ok (.iadd, 1) := by decide +kernel
theorem dX8_mills_89 : decode cX8_mills 89 = .ok (.istore_n 2, 1) := by decide +kernel
theorem dX8_mills_90 : decode cX8_mills 90 = .ok (.goto (-84), 3) := by decide +kernel
theorem dX8_mills_93 : decode cX8_mills 93 = .ok (.aload_n 0, 1) := by decide +kernel
theorem dX8_mills_94 : decode cX8_mills 94 = .ok (.sipush 296, 3) := by decide +kernel
theorem dX8_mills_97 : decode cX8_mills 97 = .ok (.dup2, 1) := by decide +kernel
theorem dX8_mills_98 : decode cX8_mills 98 = .ok (.iaload, 1) := by decide +kernel
theorem dX8_mills_99 : decode cX8_mills 99 = .ok (.iload_n 2, 1) := by decide +kernel
theorem dX8_mills_100 : decode cX8_mills 100 = .ok (.isub, 1) := by decide +kernel
theorem dX8_mills_101 : decode cX8_mills 101 = .ok (.iastore, 1) := by decide +kernel
theorem dX8_mills_102 : decode cX8_mills 102 = .ok (.iconst 0, 1) := by decide +kernel
theorem dX8_mills_103 : decode cX8_mills 103 = .ok (.istore_n 3, 1) := by decide +kernel
theorem dX8_mills_104 : decode cX8_mills 104 = .ok (.iload_n 3, 1) := by decide +kernel
theorem dX8_mills_105 : decode cX8_mills 105 = .ok (.iconst 3, 1) := by decide +kernel
theorem dX8_mills_106 : decode cX8_mills 106 = .ok (.aload_n 0, 1) := by decide +kernel
theorem dX8_mills_107 : decode cX8_mills 107 = .ok (.sipush 296, 3) := by decide +kernel
theorem dX8_mills_110 : decode cX8_mills 110 = .ok (.iaload, 1) := by decide +kernel
theorem dX8_mills_111 : decode cX8_mills 111 = .ok (.imul, 1) := by decide +kernel
theorem dX8_mills_112 : decode cX8_mills 112 = .ok (.if_icmp .ge 27, 3) := by decide +kernel
theorem dX8_mills_115 : decode cX8_mills 115 = .ok (.aload_n 0, 1) := by decide +kernel
theorem dX8_mills_116 : decode cX8_mills 116 = .ok (.sipush 297, 3) := by decide +kernel
theorem dX8_mills_119 : decode cX8_mills 119 = .ok (.iload_n 3, 1) := by decide +kernel
theorem dX8_mills_120 : decode cX8_mills 120 = .ok (.iadd, 1) := by decide +kernel
theorem dX8_mills_121 : decode cX8_mills 121 = .ok (.aload_n 0, 1) := by decide +kernel
theorem dX8_mills_122 : decode cX8_mills 122 = .ok (.sipush 297, 3) := by decide +kernel
theorem dX8_mills_125 : decode cX8_mills 125 = .ok (.iload_n 3, 1) := by decide +kernel
theorem dX8_mills_126 : decode cX8_mills 126 = .ok (.iadd, 1) := by decide +kernel
theorem dX8_mills_127 : decode cX8_mills 127 = .ok (.iconst 3, 1) := by decide +kernel
theorem dX8_mills_128 : decode cX8_mills 128 = .ok (.iload_n 2, 1) := by decide +kernel
theorem dX8_mills_129 : decode cX8_mills 129 = .ok (.imul, 1) := by decide +kernel
theorem dX8_mills_130 : decode cX8_mills 130 = .ok (.iadd, 1) := by decide +kernel
theorem dX8_mills_131 : decode cX8_mills 131 = .ok (.iaload, 1) := by decide +kernel
theorem dX8_mills_132 : decode cX8_mills 132 = .ok (.iastore, 1) := by decide +kernel
theorem dX8_mills_133 : decode cX8_mills 133 = .ok (.iinc 3 1, 3) := by decide +kernel
theorem dX8_mills_136 : decode cX8_mills 136 = .ok (.goto (-32), 3) := by decide +kernel
theorem dX8_mills_139 : decode cX8_mills 139 = .ok (.return_, 1) := by decide +kernel
theorem dX8_isStopped_0 : decode cX8_isStopped 0 = .ok (.iconst 0, 1) := by decide +kernel
theorem dX8_isStopped_1 : decode cX8_isStopped 1 = .ok (.istore_n 1, 1) := by decide +kernel
theorem dX8_isStopped_2 : decode cX8_isStopped 2 = .ok (.iconst 0, 1) := by decide +kernel
theorem dX8_isStopped_3 : decode cX8_isStopped 3 = .ok (.istore_n 2, 1) := by decide +kernel
theorem dX8_isStopped_4 : decode cX8_isStopped 4 = .ok (.iload_n 2, 1) := by decide +kernel
theorem dX8_isStopped_5 : decode cX8_isStopped 5 = .ok (.aload_n 0, 1) := by decide +kernel
theorem dX8_isStopped_6 : decode cX8_isStopped 6 = .ok (.iconst 2, 1) := by decide +kernel
theorem dX8_isStopped_7 : decode cX8_isStopped 7 = .ok (.iaload, 1) := by decide +kernel
theorem dX8_isStopped_8 : decode cX8_isStopped 8 = .ok (.if_icmp .ge 46, 3) := by decide +kernel
theorem dX8_isStopped_11 : decode cX8_isStopped 11 = .ok (.iload_n 1, 1) := by decide +kernel
theorem dX8_isStopped_12 : decode cX8_isStopped 12 = .ok (.ifCond .ne 30, 3) := by decide +kernel
theorem dX8_isStopped_15 : decode cX8_isStopped 15 = .ok (.aload_n 0, 1) := by decide +kernel
theorem dX8_isStopped_16 : decode cX8_isStopped 16 = .ok (.iconst 0, 1) := by decide +kernel
theorem dX8_isStopped_17 : decode cX8_isStopped 17 = .ok (.iaload, 1) := by decide +kernel
theorem dX8_isStopped_18 : decode cX8_isStopped 18 = .ok (.aload_n 0, 1) := by decide +kernel
theorem dX8_isStopped_19 : decode cX8_isStopped 19 = .ok (.bipush 16, 2) := by decide +kernel
theorem dX8_isStopped_21 : decode cX8_isStopped 21 = .ok (.iconst 2, 1) := by decide +kernel
theorem dX8_isStopped_22 : decode cX8_isStopped 22 = .ok (.iload_n 2, 1) := by decide +kernel
theorem dX8_isStopped_23 : decode cX8_isStopped 23 = .ok (.imul, 1) := by decide +kernel
theorem dX8_isStopped_24 : decode cX8_isStopped 24 = .ok (.iadd, 1) := by decide +kernel
theorem dX8_isStopped_25 : decode cX8_isStopped 25 = .ok (.iaload, 1) := by decide +kernel
theorem dX8_isStopped_26 : decode cX8_isStopped 26 = .ok (.aload_n 0, 1) := by decide +kernel
theorem dX8_isStopped_27 : decode cX8_isStopped 27 = .ok (.bipush 16, 2) := by decide +kernel
theorem dX8_isStopped_29 : decode cX8_isStopped 29 = .ok (.iconst 2, 1) := by decide +kernel
theorem dX8_isStopped_30 : decode cX8_isStopped 30 = .ok (.iload_n 2, 1) := by decide +kernel
theorem dX8_isStopped_31 : decode cX8_isStopped 31 = .ok (.imul, 1) := by decide +kernel
theorem dX8_isStopped_32 : decode cX8_isStopped 32 = .ok (.iadd, 1) := by decide +kernel
theorem dX8_isStopped_33 : decode cX8_isStopped 33 = .ok (.iconst 1, 1) := by decide +kernel
theorem dX8_isStopped_34 : decode cX8_isStopped 34 = .ok (.iadd, 1) := by decide +kernel
theorem dX8_isStopped_35 : decode cX8_isStopped 35 = .ok (.iaload, 1) := by decide +kernel
theorem dX8_isStopped_36 : decode cX8_isStopped 36 = .ok (.invokestatic 32, 3) := by decide +kernel
theorem dX8_isStopped_39 : decode cX8_isStopped 39 = .ok (.ifCond .eq 7, 3) := by decide +kernel
theorem dX8_isStopped_42 : decode cX8_isStopped 42 = .ok (.iconst 1, 1) := by decide +kernel
theorem dX8_isStopped_43 : decode cX8_isStopped 43 = .ok (.goto 4, 3) := by decide +kernel
theorem dX8_isStopped_46 : decode cX8_isStopped 46 = .ok (.iconst 0, 1) := by decide +kernel
theorem dX8_isStopped_47 : decode cX8_isStopped 47 = .ok (.istore_n 1, 1) := by decide +kernel
theorem dX8_isStopped_48 : decode cX8_isStopped 48 = .ok (.iinc 2 1, 3) := by decide +kernel
theorem dX8_isStopped_51 : decode cX8_isStopped 51 = .ok (.goto (-47), 3) := by decide +kernel
theorem dX8_isStopped_54 : decode cX8_isStopped 54 = .ok (.iload_n 1, 1) := by decide +kernel
theorem dX8_isStopped_55 : decode cX8_isStopped 55 = .ok (.ireturn, 1) := by decide +kernel
theorem dX8_day_0 : decode cX8_day 0 = .ok (.aload_n 0, 1) := by decide +kernel
theorem dX8_day_1 : decode cX8_day 1 = .ok (.invokestatic 74, 3) := by decide +kernel
theorem dX8_day_4 : decode cX8_day 4 = .ok (.aload_n 0, 1) := by decide +kernel
theorem dX8_day_5 : decode cX8_day 5 = .ok (.invokestatic 78, 3) := by decide +kernel
theorem dX8_day_8 : decode cX8_day 8 = .ok (.istore_n 2, 1) := by decide +kernel
theorem dX8_day_9 : decode cX8_day 9 = .ok (.iconst 0, 1) := by decide +kernel
theorem dX8_day_10 : decode cX8_day 10 = .ok (.istore_n 3, 1) := by decide +kernel
theorem dX8_day_11 : decode cX8_day 11 = .ok (.iload_n 3, 1) := by decide +kernel
theorem dX8_day_12 : decode cX8_day 12 = .ok (.aload_n 0, 1) := by decide +kernel
theorem dX8_day_13 : decode cX8_day 13 = .ok (.iconst 3, 1) := by decide +kernel
theorem dX8_day_14 : decode cX8_day 14 = .ok (.iaload, 1) := by decide +kernel
theorem dX8_day_15 : decode cX8_day 15 = .ok (.if_icmp .ge 25, 3) := by decide +kernel
theorem dX8_day_18 : decode cX8_day 18 = .ok (.iload_n 2, 1) := by decide +kernel
theorem dX8_day_19 : decode cX8_day 19 = .ok (.bipush (-6), 2) := by decide +kernel
theorem dX8_day_21 : decode cX8_day 21 = .ok (.if_icmp .eq 19, 3) := by decide +kernel
theorem dX8_day_24 : decode cX8_day 24 = .ok (.aload_n 0, 1) := by decide +kernel
theorem dX8_day_25 : decode cX8_day 25 = .ok (.iload_n 2, 1) := by decide +kernel
theorem dX8_day_26 : decode cX8_day 26 = .ok (.invokestatic 81, 3) := by decide +kernel
theorem dX8_day_29 : decode cX8_day 29 = .ok (.aload_n 0, 1) := by decide +kernel
theorem dX8_day_30 : decode cX8_day 30 = .ok (.invokestatic 78, 3) := by decide +kernel
theorem dX8_day_33 : decode cX8_day 33 = .ok (.istore_n 2, 1) := by decide +kernel
theorem dX8_day_34 : decode cX8_day 34 = .ok (.iinc 3 1, 3) := by decide +kernel
theorem dX8_day_37 : decode cX8_day 37 = .ok (.goto (-26), 3) := by decide +kernel
theorem dX8_day_40 : decode cX8_day 40 = .ok (.iload_n 1, 1) := by decide +kernel
theorem dX8_day_41 : decode cX8_day 41 = .ok (.ifCond .ne 10, 3) := by decide +kernel
theorem dX8_day_44 : decode cX8_day 44 = .ok (.aload_n 0, 1) := by decide +kernel
theorem dX8_day_45 : decode cX8_day 45 = .ok (.invokestatic 85, 3) := by decide +kernel
theorem dX8_day_48 : decode cX8_day 48 = .ok (.ifCond .eq 14, 3) := by decide +kernel
theorem dX8_day_51 : decode cX8_day 51 = .ok (.aload_n 0, 1) := by decide +kernel
theorem dX8_day_52 : decode cX8_day 52 = .ok (.bipush 31, 2) := by decide +kernel
theorem dX8_day_54 : decode cX8_day 54 = .ok (.dup2, 1) := by decide +kernel
theorem dX8_day_55 : decode cX8_day 55 = .ok (.iaload, 1) := by decide +kernel
theorem dX8_day_56 : decode cX8_day 56 = .ok (.iconst 1, 1) := by decide +kernel
theorem dX8_day_57 : decode cX8_day 57 = .ok (.iadd, 1) := by decide +kernel
theorem dX8_day_58 : decode cX8_day 58 = .ok (.iastore, 1) := by decide +kernel
theorem dX8_day_59 : decode cX8_day 59 = .ok (.goto 7, 3) := by decide +kernel
theorem dX8_day_62 : decode cX8_day 62 = .ok (.aload_n 0, 1) := by decide +kernel
theorem dX8_day_63 : decode cX8_day 63 = .ok (.invokestatic 89, 3) := by decide +kernel
theorem dX8_day_66 : decode cX8_day 66 = .ok (.aload_n 0, 1) := by decide +kernel
theorem dX8_day_67 : decode cX8_day 67 = .ok (.iconst 0, 1) := by decide +kernel
theorem dX8_day_68 : decode cX8_day 68 = .ok (.dup2, 1) := by decide +kernel
theorem dX8_day_69 : decode cX8_day 69 = .ok (.iaload, 1) := by decide +kernel
theorem dX8_day_70 : decode cX8_day 70 = .ok (.iconst 1, 1) := by decide +kernel
theorem dX8_day_71 : decode cX8_day 71 = .ok (.iadd, 1) := by decide +kernel
theorem dX8_day_72 : decode cX8_day 72 = .ok (.iastore, 1) := by decide +kernel
theorem dX8_day_73 : decode cX8_day 73 = .ok (.return_, 1) := by decide +kernel
theorem dX8_days_0 : decode cX8_days 0 = .ok (.iconst 0, 1) := by decide +kernel
theorem dX8_days_1 : decode cX8_days 1 = .ok (.istore_n 3, 1) := by decide +kernel
theorem dX8_days_2 : decode cX8_days 2 = .ok (.iload_n 3, 1) := by decide +kernel
theorem dX8_days_3 : decode cX8_days 3 = .ok (.iload_n 1, 1) := by decide +kernel
theorem dX8_days_4 : decode cX8_days 4 = .ok (.if_icmp .ge 23, 3) := by decide +kernel
theorem dX8_days_7 : decode cX8_days 7 = .ok (.aload_n 0, 1) := by decide +kernel
theorem dX8_days_8 : decode cX8_days 8 = .ok (.iload_n 3, 1) := by decide +kernel
theorem dX8_days_9 : decode cX8_days 9 = .ok (.iload_n 2, 1) := by decide +kernel
theorem dX8_days_10 : decode cX8_days 10 = .ok (.if_icmp .ge 7, 3) := by decide +kernel
theorem dX8_days_13 : decode cX8_days 13 = .ok (.iconst 1, 1) := by decide +kernel
theorem dX8_days_14 : decode cX8_days 14 = .ok (.goto 4, 3) := by decide +kernel
theorem dX8_days_17 : decode cX8_days 17 = .ok (.iconst 0, 1) := by decide +kernel
theorem dX8_days_18 : decode cX8_days 18 = .ok (.invokestatic 92, 3) := by decide +kernel
theorem dX8_days_21 : decode cX8_days 21 = .ok (.iinc 3 1, 3) := by decide +kernel
theorem dX8_days_24 : decode cX8_days 24 = .ok (.goto (-22), 3) := by decide +kernel
theorem dX8_days_27 : decode cX8_days 27 = .ok (.return_, 1) := by decide +kernel
theorem dX8_isFor_0 : decode cX8_isFor 0 = .ok (.iload_n 0, 1) := by decide +kernel
theorem dX8_isFor_1 : decode cX8_isFor 1 = .ok (.tableswitch 89 0 5 #[39, 47, 55, 64, 73, 81], 39) := by decide +kernel
theorem dX8_isFor_40 : decode cX8_isFor 40 = .ok (.iload_n 1, 1) := by decide +kernel
theorem dX8_isFor_41 : decode cX8_isFor 41 = .ok (.iconst 0, 1) := by decide +kernel
theorem dX8_isFor_42 : decode cX8_isFor 42 = .ok (.bipush 20, 2) := by decide +kernel
theorem dX8_isFor_44 : decode cX8_isFor 44 = .ok (.invokestatic 32, 3) := by decide +kernel
theorem dX8_isFor_47 : decode cX8_isFor 47 = .ok (.ireturn, 1) := by decide +kernel
theorem dX8_isFor_48 : decode cX8_isFor 48 = .ok (.iload_n 1, 1) := by decide +kernel
theorem dX8_isFor_49 : decode cX8_isFor 49 = .ok (.iconst 1, 1) := by decide +kernel
theorem dX8_isFor_50 : decode cX8_isFor 50 = .ok (.bipush 30, 2) := by decide +kernel
theorem dX8_isFor_52 : decode cX8_isFor 52 = .ok (.invokestatic 32, 3) := by decide +kernel
theorem dX8_isFor_55 : decode cX8_isFor 55 = .ok (.ireturn, 1) := by decide +kernel
theorem dX8_isFor_56 : decode cX8_isFor 56 = .ok (.iload_n 1, 1) := by decide +kernel
theorem dX8_isFor_57 : decode cX8_isFor 57 = .ok (.iconst 1, 1) := by decide +kernel
theorem dX8_isFor_58 : decode cX8_isFor 58 = .ok (.sipush 200, 3) := by decide +kernel
theorem dX8_isFor_61 : decode cX8_isFor 61 = .ok (.invokestatic 32, 3) := by decide +kernel
theorem dX8_isFor_64 : decode cX8_isFor 64 = .ok (.ireturn, 1) := by decide +kernel
theorem dX8_isFor_65 : decode cX8_isFor 65 = .ok (.iload_n 1, 1) := by decide +kernel
theorem dX8_isFor_66 : decode cX8_isFor 66 = .ok (.iconst 0, 1) := by decide +kernel
theorem dX8_isFor_67 : decode cX8_isFor 67 = .ok (.sipush 400, 3) := by decide +kernel
theorem dX8_isFor_70 : decode cX8_isFor 70 = .ok (.invokestatic 32, 3) := by decide +kernel
theorem dX8_isFor_73 : decode cX8_isFor 73 = .ok (.ireturn, 1) := by decide +kernel
theorem dX8_isFor_74 : decode cX8_isFor 74 = .ok (.iload_n 1, 1) := by decide +kernel
theorem dX8_isFor_75 : decode cX8_isFor 75 = .ok (.iconst 0, 1) := by decide +kernel
theorem dX8_isFor_76 : decode cX8_isFor 76 = .ok (.bipush 100, 2) := by decide +kernel
theorem dX8_isFor_78 : decode cX8_isFor 78 = .ok (.invokestatic 32, 3) := by decide +kernel
theorem dX8_isFor_81 : decode cX8_isFor 81 = .ok (.ireturn, 1) := by decide +kernel
theorem dX8_isFor_82 : decode cX8_isFor 82 = .ok (.iload_n 1, 1) := by decide +kernel
theorem dX8_isFor_83 : decode cX8_isFor 83 = .ok (.iconst 1, 1) := by decide +kernel
theorem dX8_isFor_84 : decode cX8_isFor 84 = .ok (.bipush 20, 2) := by decide +kernel
theorem dX8_isFor_86 : decode cX8_isFor 86 = .ok (.invokestatic 32, 3) := by decide +kernel
theorem dX8_isFor_89 : decode cX8_isFor 89 = .ok (.ireturn, 1) := by decide +kernel
theorem dX8_isFor_90 : decode cX8_isFor 90 = .ok (.iload_n 1, 1) := by decide +kernel
theorem dX8_isFor_91 : decode cX8_isFor 91 = .ok (.iconst 0, 1) := by decide +kernel
theorem dX8_isFor_92 : decode cX8_isFor 92 = .ok (.sipush 999, 3) := by decide +kernel
theorem dX8_isFor_95 : decode cX8_isFor 95 = .ok (.invokestatic 32, 3) := by decide +kernel
theorem dX8_isFor_98 : decode cX8_isFor 98 = .ok (.ireturn, 1) := by decide +kernel
theorem dX8_changes_0 : decode cX8_changes 0 = .ok (.aload_n 0, 1) := by decide +kernel
theorem dX8_changes_1 : decode cX8_changes 1 = .ok (.getfield 7, 3) := by decide +kernel
theorem dX8_changes_4 : decode cX8_changes 4 = .ok (.iload_n 1, 1) := by decide +kernel
theorem dX8_changes_5 : decode cX8_changes 5 = .ok (.iaload, 1) := by decide +kernel
theorem dX8_changes_6 : decode cX8_changes 6 = .ok (.istore_n 3, 1) := by decide +kernel
theorem dX8_changes_7 : decode cX8_changes 7 = .ok (.aload_n 0, 1) := by decide +kernel
theorem dX8_changes_8 : decode cX8_changes 8 = .ok (.getfield 7, 3) := by decide +kernel
theorem dX8_changes_11 : decode cX8_changes 11 = .ok (.iload_n 1, 1) := by decide +kernel
theorem dX8_changes_12 : decode cX8_changes 12 = .ok (.iload_n 2, 1) := by decide +kernel
theorem dX8_changes_13 : decode cX8_changes 13 = .ok (.iastore, 1) := by decide +kernel
theorem dX8_changes_14 : decode cX8_changes 14 = .ok (.iload_n 3, 1) := by decide +kernel
theorem dX8_changes_15 : decode cX8_changes 15 = .ok (.ireturn, 1) := by decide +kernel
theorem dX8_set_0 : decode cX8_set 0 = .ok (.iload_n 1, 1) := by decide +kernel
theorem dX8_set_1 : decode cX8_set 1 = .ok (.iconst 0, 1) := by decide +kernel
theorem dX8_set_2 : decode cX8_set 2 = .ok (.bipush 6, 2) := by decide +kernel
theorem dX8_set_4 : decode cX8_set 4 = .ok (.invokestatic 32, 3) := by decide +kernel
theorem dX8_set_7 : decode cX8_set 7 = .ok (.ifCond .eq 11, 3) := by decide +kernel
theorem dX8_set_10 : decode cX8_set 10 = .ok (.iload_n 1, 1) := by decide +kernel
theorem dX8_set_11 : decode cX8_set 11 = .ok (.iload_n 2, 1) := by decide +kernel
theorem dX8_set_12 : decode cX8_set 12 = .ok (.invokestatic 96, 3) := by decide +kernel
theorem dX8_set_15 : decode cX8_set 15 = .ok (.ifCond .ne 6, 3) := by decide +kernel
theorem dX8_set_18 : decode cX8_set 18 = .ok (.bipush (-2), 2) := by decide +kernel
theorem dX8_set_20 : decode cX8_set 20 = .ok (.ireturn, 1) := by decide +kernel
theorem dX8_set_21 : decode cX8_set 21 = .ok (.aload_n 0, 1) := by decide +kernel
theorem dX8_set_22 : decode cX8_set 22 = .ok (.invokevirtual 44, 3) := by decide +kernel
theorem dX8_set_25 : decode cX8_set 25 = .ok (.aload_n 0, 1) := by decide +kernel
theorem dX8_set_26 : decode cX8_set 26 = .ok (.iconst 3, 1) := by decide +kernel
theorem dX8_set_27 : decode cX8_set 27 = .ok (.iload_n 1, 1) := by decide +kernel
theorem dX8_set_28 : decode cX8_set 28 = .ok (.iadd, 1) := by decide +kernel
theorem dX8_set_29 : decode cX8_set 29 = .ok (.iload_n 2, 1) := by decide +kernel
theorem dX8_set_30 : decode cX8_set 30 = .ok (.invokevirtual 100, 3) := by decide +kernel
theorem dX8_set_33 : decode cX8_set 33 = .ok (.ireturn, 1) := by decide +kernel
theorem dX8_mayQuota_0 : decode cX8_mayQuota 0 = .ok (.iload_n 0, 1) := by decide +kernel
theorem dX8_mayQuota_1 : decode cX8_mayQuota 1 = .ok (.invokestatic 103, 3) := by decide +kernel
theorem dX8_mayQuota_4 : decode cX8_mayQuota 4 = .ok (.ifCond .ne 7, 3) := by decide +kernel
theorem dX8_mayQuota_7 : decode cX8_mayQuota 7 = .ok (.iconst (-1), 1) := by decide +kernel
theorem dX8_mayQuota_8 : decode cX8_mayQuota 8 = .ok (.goto 20, 3) := by decide +kernel
theorem dX8_mayQuota_11 : decode cX8_mayQuota 11 = .ok (.iload_n 1, 1) := by decide +kernel
theorem dX8_mayQuota_12 : decode cX8_mayQuota 12 = .ok (.iconst 0, 1) := by decide +kernel
theorem dX8_mayQuota_13 : decode cX8_mayQuota 13 = .ok (.sipush 9999, 3) := by decide +kernel
theorem dX8_mayQuota_16 : decode cX8_mayQuota 16 = .ok (.invokestatic 32, 3) := by decide +kernel
theorem dX8_mayQuota_19 : decode cX8_mayQuota 19 = .ok (.ifCond .eq 7, 3) := by decide +kernel
theorem dX8_mayQuota_22 : decode cX8_mayQuota 22 = .ok (.iconst 0, 1) := by decide +kernel
theorem dX8_mayQuota_23 : decode cX8_mayQuota 23 = .ok (.goto 5, 3) := by decide +kernel
theorem dX8_mayQuota_26 : decode cX8_mayQuota 26 = .ok (.bipush (-2), 2) := by decide +kernel
theorem dX8_mayQuota_28 : decode cX8_mayQuota 28 = .ok (.ireturn, 1) := by decide +kernel
theorem dX8_quota_0 : decode cX8_quota 0 = .ok (.iload_n 1, 1) := by decide +kernel
theorem dX8_quota_1 : decode cX8_quota 1 = .ok (.iload_n 2, 1) := by decide +kernel
theorem dX8_quota_2 : decode cX8_quota 2 = .ok (.invokestatic 107, 3) := by decide +kernel
theorem dX8_quota_5 : decode cX8_quota 5 = .ok (.istore_n 3, 1) := by decide +kernel
theorem dX8_quota_6 : decode cX8_quota 6 = .ok (.iload_n 3, 1) := by decide +kernel
theorem dX8_quota_7 : decode cX8_quota 7 = .ok (.ifCond .eq 5, 3) := by decide +kernel
theorem dX8_quota_10 : decode cX8_quota 10 = .ok (.iload_n 3, 1) := by decide +kernel
theorem dX8_quota_11 : decode cX8_quota 11 = .ok (.ireturn, 1) := by decide +kernel
theorem dX8_quota_12 : decode cX8_quota 12 = .ok (.aload_n 0, 1) := by decide +kernel
theorem dX8_quota_13 : decode cX8_quota 13 = .ok (.invokevirtual 44, 3) := by decide +kernel
theorem dX8_quota_16 : decode cX8_quota 16 = .ok (.aload_n 0, 1) := by decide +kernel
theorem dX8_quota_17 : decode cX8_quota 17 = .ok (.bipush 10, 2) := by decide +kernel
theorem dX8_quota_19 : decode cX8_quota 19 = .ok (.iload_n 1, 1) := by decide +kernel
theorem dX8_quota_20 : decode cX8_quota 20 = .ok (.iadd, 1) := by decide +kernel
theorem dX8_quota_21 : decode cX8_quota 21 = .ok (.iload_n 2, 1) := by decide +kernel
theorem dX8_quota_22 : decode cX8_quota 22 = .ok (.invokevirtual 100, 3) := by decide +kernel
theorem dX8_quota_25 : decode cX8_quota 25 = .ok (.ireturn, 1) := by decide +kernel
theorem dX8_mayLend_0 : decode cX8_mayLend 0 = .ok (.iload_n 1, 1) := by decide +kernel
theorem dX8_mayLend_1 : decode cX8_mayLend 1 = .ok (.invokestatic 103, 3) := by decide +kernel
theorem dX8_mayLend_4 : decode cX8_mayLend 4 = .ok (.ifCond .eq 10, 3) := by decide +kernel
theorem dX8_mayLend_7 : decode cX8_mayLend 7 = .ok (.iload_n 2, 1) := by decide +kernel

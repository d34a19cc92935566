theorem dX7_count_45 : decode cX7_count 45 = .ok (.getfield 10, 3) := by decide +kernel
theorem dX7_count_48 : decode cX7_count 48 = .ok (.iload_n 1, 1) := by decide +kernel
theorem dX7_count_49 : decode cX7_count 49 = .ok (.invokevirtual 97, 3) := by decide +kernel
theorem dX7_count_52 : decode cX7_count 52 = .ok (.ireturn, 1) := by decide +kernel
theorem dX7_fields_0 : decode cX7_fields 0 = .ok (.iload_n 1, 1) := by decide +kernel
theorem dX7_fields_1 : decode cX7_fields 1 = .ok (.iconst 0, 1) := by decide +kernel
theorem dX7_fields_2 : decode cX7_fields 2 = .ok (.iconst 3, 1) := by decide +kernel
theorem dX7_fields_3 : decode cX7_fields 3 = .ok (.invokestatic 100, 3) := by decide +kernel
theorem dX7_fields_6 : decode cX7_fields 6 = .ok (.ifCond .ne 7, 3) := by decide +kernel
theorem dX7_fields_9 : decode cX7_fields 9 = .ok (.ldc2_w 104, 3) := by decide +kernel
theorem dX7_fields_12 : decode cX7_fields 12 = .ok (.lreturn, 1) := by decide +kernel
theorem dX7_fields_13 : decode cX7_fields 13 = .ok (.aload_n 0, 1) := by decide +kernel
theorem dX7_fields_14 : decode cX7_fields 14 = .ok (.getfield 10, 3) := by decide +kernel
theorem dX7_fields_17 : decode cX7_fields 17 = .ok (.getfield 106, 3) := by decide +kernel
theorem dX7_fields_20 : decode cX7_fields 20 = .ok (.iload_n 1, 1) := by decide +kernel
theorem dX7_fields_21 : decode cX7_fields 21 = .ok (.aload_n 0, 1) := by decide +kernel
theorem dX7_fields_22 : decode cX7_fields 22 = .ok (.getfield 10, 3) := by decide +kernel
theorem dX7_fields_25 : decode cX7_fields 25 = .ok (.getfield 110, 3) := by decide +kernel
theorem dX7_fields_28 : decode cX7_fields 28 = .ok (.invokevirtual 113, 3) := by decide +kernel
theorem dX7_fields_31 : decode cX7_fields 31 = .ok (.lreturn, 1) := by decide +kernel
theorem dX7_next_0 : decode cX7_next 0 = .ok (.aload_n 0, 1) := by decide +kernel
theorem dX7_next_1 : decode cX7_next 1 = .ok (.getfield 10, 3) := by decide +kernel
theorem dX7_next_4 : decode cX7_next 4 = .ok (.invokevirtual 119, 3) := by decide +kernel
theorem dX7_next_7 : decode cX7_next 7 = .ok (.ireturn, 1) := by decide +kernel
theorem dX7_then_0 : decode cX7_then 0 = .ok (.iload_n 1, 1) := by decide +kernel
theorem dX7_then_1 : decode cX7_then 1 = .ok (.iconst 1, 1) := by decide +kernel
theorem dX7_then_2 : decode cX7_then 2 = .ok (.sipush 300, 3) := by decide +kernel
theorem dX7_then_5 : decode cX7_then 5 = .ok (.invokestatic 100, 3) := by decide +kernel
theorem dX7_then_8 : decode cX7_then 8 = .ok (.ifCond .eq 12, 3) := by decide +kernel
theorem dX7_then_11 : decode cX7_then 11 = .ok (.iload_n 2, 1) := by decide +kernel
theorem dX7_then_12 : decode cX7_then 12 = .ok (.iconst 0, 1) := by decide +kernel
theorem dX7_then_13 : decode cX7_then 13 = .ok (.iconst 2, 1) := by decide +kernel
theorem dX7_then_14 : decode cX7_then 14 = .ok (.invokestatic 100, 3) := by decide +kernel
theorem dX7_then_17 : decode cX7_then 17 = .ok (.ifCond .ne 6, 3) := by decide +kernel
theorem dX7_then_20 : decode cX7_then 20 = .ok (.bipush (-2), 2) := by decide +kernel
theorem dX7_then_22 : decode cX7_then 22 = .ok (.ireturn, 1) := by decide +kernel
theorem dX7_then_23 : decode cX7_then 23 = .ok (.aload_n 0, 1) := by decide +kernel
theorem dX7_then_24 : decode cX7_then 24 = .ok (.iload_n 1, 1) := by decide +kernel
theorem dX7_then_25 : decode cX7_then 25 = .ok (.iconst 0, 1) := by decide +kernel
theorem dX7_then_26 : decode cX7_then 26 = .ok (.invokevirtual 123, 3) := by decide +kernel
theorem dX7_then_29 : decode cX7_then 29 = .ok (.iload_n 2, 1) := by decide +kernel
theorem dX7_then_30 : decode cX7_then 30 = .ok (.lookupswitch 64 #[(0, 26), (1, 48)], 26) := by decide +kernel
theorem dX7_then_56 : decode cX7_then 56 = .ok (.aload_n 0, 1) := by decide +kernel
theorem dX7_then_57 : decode cX7_then 57 = .ok (.getfield 16, 3) := by decide +kernel
theorem dX7_then_60 : decode cX7_then 60 = .ok (.getfield 127, 3) := by decide +kernel
theorem dX7_then_63 : decode cX7_then 63 = .ok (.invokevirtual 131, 3) := by decide +kernel
theorem dX7_then_66 : decode cX7_then 66 = .ok (.aload_n 0, 1) := by decide +kernel
theorem dX7_then_67 : decode cX7_then 67 = .ok (.getfield 10, 3) := by decide +kernel
theorem dX7_then_70 : decode cX7_then 70 = .ok (.getfield 127, 3) := by decide +kernel
theorem dX7_then_73 : decode cX7_then 73 = .ok (.invokevirtual 131, 3) := by decide +kernel
theorem dX7_then_76 : decode cX7_then 76 = .ok (.isub, 1) := by decide +kernel
theorem dX7_then_77 : decode cX7_then 77 = .ok (.ireturn, 1) := by decide +kernel
theorem dX7_then_78 : decode cX7_then 78 = .ok (.aload_n 0, 1) := by decide +kernel
theorem dX7_then_79 : decode cX7_then 79 = .ok (.getfield 16, 3) := by decide +kernel
theorem dX7_then_82 : decode cX7_then 82 = .ok (.getfield 136, 3) := by decide +kernel
theorem dX7_then_85 : decode cX7_then 85 = .ok (.aload_n 0, 1) := by decide +kernel
theorem dX7_then_86 : decode cX7_then 86 = .ok (.getfield 10, 3) := by decide +kernel
theorem dX7_then_89 : decode cX7_then 89 = .ok (.getfield 136, 3) := by decide +kernel
theorem dX7_then_92 : decode cX7_then 92 = .ok (.isub, 1) := by decide +kernel
theorem dX7_then_93 : decode cX7_then 93 = .ok (.ireturn, 1) := by decide +kernel
theorem dX7_then_94 : decode cX7_then 94 = .ok (.aload_n 0, 1) := by decide +kernel
theorem dX7_then_95 : decode cX7_then 95 = .ok (.getfield 16, 3) := by decide +kernel
theorem dX7_then_98 : decode cX7_then 98 = .ok (.getfield 127, 3) := by decide +kernel
theorem dX7_then_101 : decode cX7_then 101 = .ok (.invokevirtual 139, 3) := by decide +kernel
theorem dX7_then_104 : decode cX7_then 104 = .ok (.aload_n 0, 1) := by decide +kernel
theorem dX7_then_105 : decode cX7_then 105 = .ok (.getfield 10, 3) := by decide +kernel
theorem dX7_then_108 : decode cX7_then 108 = .ok (.getfield 127, 3) := by decide +kernel
theorem dX7_then_111 : decode cX7_then 111 = .ok (.invokevirtual 139, 3) := by decide +kernel
theorem dX7_then_114 : decode cX7_then 114 = .ok (.isub, 1) := by decide +kernel
theorem dX7_then_115 : decode cX7_then 115 = .ok (.ireturn, 1) := by decide +kernel
theorem dX7_stopCosts_0 : decode cX7_stopCosts 0 = .ok (.iload_n 1, 1) := by decide +kernel
theorem dX7_stopCosts_1 : decode cX7_stopCosts 1 = .ok (.iconst 1, 1) := by decide +kernel
theorem dX7_stopCosts_2 : decode cX7_stopCosts 2 = .ok (.sipush 300, 3) := by decide +kernel
theorem dX7_stopCosts_5 : decode cX7_stopCosts 5 = .ok (.invokestatic 100, 3) := by decide +kernel
theorem dX7_stopCosts_8 : decode cX7_stopCosts 8 = .ok (.ifCond .eq 12, 3) := by decide +kernel
theorem dX7_stopCosts_11 : decode cX7_stopCosts 11 = .ok (.iload_n 2, 1) := by decide +kernel
theorem dX7_stopCosts_12 : decode cX7_stopCosts 12 = .ok (.iconst 0, 1) := by decide +kernel
theorem dX7_stopCosts_13 : decode cX7_stopCosts 13 = .ok (.iload_n 1, 1) := by decide +kernel
theorem dX7_stopCosts_14 : decode cX7_stopCosts 14 = .ok (.invokestatic 100, 3) := by decide +kernel
theorem dX7_stopCosts_17 : decode cX7_stopCosts 17 = .ok (.ifCond .ne 6, 3) := by decide +kernel
theorem dX7_stopCosts_20 : decode cX7_stopCosts 20 = .ok (.bipush (-2), 2) := by decide +kernel
theorem dX7_stopCosts_22 : decode cX7_stopCosts 22 = .ok (.ireturn, 1) := by decide +kernel
theorem dX7_stopCosts_23 : decode cX7_stopCosts 23 = .ok (.aload_n 0, 1) := by decide +kernel
theorem dX7_stopCosts_24 : decode cX7_stopCosts 24 = .ok (.iload_n 1, 1) := by decide +kernel
theorem dX7_stopCosts_25 : decode cX7_stopCosts 25 = .ok (.iconst 0, 1) := by decide +kernel
theorem dX7_stopCosts_26 : decode cX7_stopCosts 26 = .ok (.invokevirtual 123, 3) := by decide +kernel
theorem dX7_stopCosts_29 : decode cX7_stopCosts 29 = .ok (.aload_n 0, 1) := by decide +kernel
theorem dX7_stopCosts_30 : decode cX7_stopCosts 30 = .ok (.getfield 16, 3) := by decide +kernel
theorem dX7_stopCosts_33 : decode cX7_stopCosts 33 = .ok (.getfield 136, 3) := by decide +kernel
theorem dX7_stopCosts_36 : decode cX7_stopCosts 36 = .ok (.istore_n 3, 1) := by decide +kernel
theorem dX7_stopCosts_37 : decode cX7_stopCosts 37 = .ok (.aload_n 0, 1) := by decide +kernel
theorem dX7_stopCosts_38 : decode cX7_stopCosts 38 = .ok (.iload_n 1, 1) := by decide +kernel
theorem dX7_stopCosts_39 : decode cX7_stopCosts 39 = .ok (.iload_n 2, 1) := by decide +kernel
theorem dX7_stopCosts_40 : decode cX7_stopCosts 40 = .ok (.invokevirtual 123, 3) := by decide +kernel
theorem dX7_stopCosts_43 : decode cX7_stopCosts 43 = .ok (.iload_n 3, 1) := by decide +kernel
theorem dX7_stopCosts_44 : decode cX7_stopCosts 44 = .ok (.aload_n 0, 1) := by decide +kernel
theorem dX7_stopCosts_45 : decode cX7_stopCosts 45 = .ok (.getfield 16, 3) := by decide +kernel
theorem dX7_stopCosts_48 : decode cX7_stopCosts 48 = .ok (.getfield 136, 3) := by decide +kernel
theorem dX7_stopCosts_51 : decode cX7_stopCosts 51 = .ok (.isub, 1) := by decide +kernel
theorem dX7_stopCosts_52 : decode cX7_stopCosts 52 = .ok (.ldc 146, 2) := by decide +kernel
theorem dX7_stopCosts_54 : decode cX7_stopCosts 54 = .ok (.iadd, 1) := by decide +kernel
theorem dX7_stopCosts_55 : decode cX7_stopCosts 55 = .ok (.ireturn, 1) := by decide +kernel
theorem dX7_tryDays_0 : decode cX7_tryDays 0 = .ok (.aload_n 0, 1) := by decide +kernel
theorem dX7_tryDays_1 : decode cX7_tryDays 1 = .ok (.getfield 16, 3) := by decide +kernel
theorem dX7_tryDays_4 : decode cX7_tryDays 4 = .ok (.aload_n 0, 1) := by decide +kernel
theorem dX7_tryDays_5 : decode cX7_tryDays 5 = .ok (.getfield 10, 3) := by decide +kernel
theorem dX7_tryDays_8 : decode cX7_tryDays 8 = .ok (.invokevirtual 147, 3) := by decide +kernel
theorem dX7_tryDays_11 : decode cX7_tryDays 11 = .ok (.iconst 0, 1) := by decide +kernel
theorem dX7_tryDays_12 : decode cX7_tryDays 12 = .ok (.istore_n 3, 1) := by decide +kernel
theorem dX7_tryDays_13 : decode cX7_tryDays 13 = .ok (.iload_n 3, 1) := by decide +kernel
theorem dX7_tryDays_14 : decode cX7_tryDays 14 = .ok (.iload_n 1, 1) := by decide +kernel
theorem dX7_tryDays_15 : decode cX7_tryDays 15 = .ok (.if_icmp .ge 26, 3) := by decide +kernel
theorem dX7_tryDays_18 : decode cX7_tryDays 18 = .ok (.aload_n 0, 1) := by decide +kernel
theorem dX7_tryDays_19 : decode cX7_tryDays 19 = .ok (.getfield 16, 3) := by decide +kernel
theorem dX7_tryDays_22 : decode cX7_tryDays 22 = .ok (.iload_n 3, 1) := by decide +kernel
theorem dX7_tryDays_23 : decode cX7_tryDays 23 = .ok (.iload_n 2, 1) := by decide +kernel
theorem dX7_tryDays_24 : decode cX7_tryDays 24 = .ok (.if_icmp .ge 7, 3) := by decide +kernel
theorem dX7_tryDays_27 : decode cX7_tryDays 27 = .ok (.iconst 1, 1) := by decide +kernel
theorem dX7_tryDays_28 : decode cX7_tryDays 28 = .ok (.goto 4, 3) := by decide +kernel
theorem dX7_tryDays_31 : decode cX7_tryDays 31 = .ok (.iconst 0, 1) := by decide +kernel
theorem dX7_tryDays_32 : decode cX7_tryDays 32 = .ok (.invokevirtual 150, 3) := by decide +kernel
theorem dX7_tryDays_35 : decode cX7_tryDays 35 = .ok (.iinc 3 1, 3) := by decide +kernel
theorem dX7_tryDays_38 : decode cX7_tryDays 38 = .ok (.goto (-25), 3) := by decide +kernel
theorem dX7_tryDays_41 : decode cX7_tryDays 41 = .ok (.return_, 1) := by decide +kernel
theorem dX7_undo_0 : decode cX7_undo 0 = .ok (.aload_n 0, 1) := by decide +kernel
theorem dX7_undo_1 : decode cX7_undo 1 = .ok (.getfield 22, 3) := by decide +kernel
theorem dX7_undo_4 : decode cX7_undo 4 = .ok (.getfield 94, 3) := by decide +kernel
theorem dX7_undo_7 : decode cX7_undo 7 = .ok (.ifCond .ne 6, 3) := by decide +kernel
theorem dX7_undo_10 : decode cX7_undo 10 = .ok (.bipush (-5), 2) := by decide +kernel
theorem dX7_undo_12 : decode cX7_undo 12 = .ok (.ireturn, 1) := by decide +kernel
theorem dX7_undo_13 : decode cX7_undo 13 = .ok (.aload_n 0, 1) := by decide +kernel
theorem dX7_undo_14 : decode cX7_undo 14 = .ok (.getfield 22, 3) := by decide +kernel
theorem dX7_undo_17 : decode cX7_undo 17 = .ok (.aload_n 0, 1) := by decide +kernel
theorem dX7_undo_18 : decode cX7_undo 18 = .ok (.getfield 10, 3) := by decide +kernel
theorem dX7_undo_21 : decode cX7_undo 21 = .ok (.invokevirtual 189, 3) := by decide +kernel
theorem dX7_undo_24 : decode cX7_undo 24 = .ok (.aload_n 0, 1) := by decide +kernel
theorem dX7_undo_25 : decode cX7_undo 25 = .ok (.getfield 22, 3) := by decide +kernel
theorem dX7_undo_28 : decode cX7_undo 28 = .ok (.getfield 94, 3) := by decide +kernel
theorem dX7_undo_31 : decode cX7_undo 31 = .ok (.ireturn, 1) := by decide +kernel
theorem dX7_isWithin_0 : decode cX7_isWithin 0 = .ok (.iload_n 0, 1) := by decide +kernel
theorem dX7_isWithin_1 : decode cX7_isWithin 1 = .ok (.iload_n 1, 1) := by decide +kernel
theorem dX7_isWithin_2 : decode cX7_isWithin 2 = .ok (.if_icmp .lt 12, 3) := by decide +kernel
theorem dX7_isWithin_5 : decode cX7_isWithin 5 = .ok (.iload_n 0, 1) := by decide +kernel
theorem dX7_isWithin_6 : decode cX7_isWithin 6 = .ok (.iload_n 2, 1) := by decide +kernel
theorem dX7_isWithin_7 : decode cX7_isWithin 7 = .ok (.if_icmp .gt 7, 3) := by decide +kernel
theorem dX7_isWithin_10 : decode cX7_isWithin 10 = .ok (.iconst 1, 1) := by decide +kernel
theorem dX7_isWithin_11 : decode cX7_isWithin 11 = .ok (.goto 4, 3) := by decide +kernel
theorem dX7_isWithin_14 : decode cX7_isWithin 14 = .ok (.iconst 0, 1) := by decide +kernel
theorem dX7_isWithin_15 : decode cX7_isWithin 15 = .ok (.ireturn, 1) := by decide +kernel
theorem dX7_isGrower_0 : decode cX7_isGrower 0 = .ok (.iload_n 0, 1) := by decide +kernel
theorem dX7_isGrower_1 : decode cX7_isGrower 1 = .ok (.iconst 0, 1) := by decide +kernel
theorem dX7_isGrower_2 : decode cX7_isGrower 2 = .ok (.iconst 5, 1) := by decide +kernel
theorem dX7_isGrower_3 : decode cX7_isGrower 3 = .ok (.invokestatic 100, 3) := by decide +kernel
theorem dX7_isGrower_6 : decode cX7_isGrower 6 = .ok (.ireturn, 1) := by decide +kernel
theorem dX7_copyRow_0 : decode cX7_copyRow 0 = .ok (.aload_n 0, 1) := by decide +kernel
theorem dX7_copyRow_1 : decode cX7_copyRow 1 = .ok (.iconst 0, 1) := by decide +kernel
theorem dX7_copyRow_2 : decode cX7_copyRow 2 = .ok (.aload_n 1, 1) := by decide +kernel
theorem dX7_copyRow_3 : decode cX7_copyRow 3 = .ok (.iconst 0, 1) := by decide +kernel
theorem dX7_copyRow_4 : decode cX7_copyRow 4 = .ok (.iload_n 2, 1) := by decide +kernel
theorem dX7_copyRow_5 : decode cX7_copyRow 5 = .ok (.aload_n 0, 1) := by decide +kernel
theorem dX7_copyRow_6 : decode cX7_copyRow 6 = .ok (.arraylength, 1) := by decide +kernel
theorem dX7_copyRow_7 : decode cX7_copyRow 7 = .ok (.aload_n 1, 1) := by decide +kernel
theorem dX7_copyRow_8 : decode cX7_copyRow 8 = .ok (.arraylength, 1) := by decide +kernel
theorem dX7_copyRow_9 : decode cX7_copyRow 9 = .ok (.invokestatic 195, 3) := by decide +kernel
theorem dX7_copyRow_12 : decode cX7_copyRow 12 = .ok (.invokestatic 195, 3) := by decide +kernel
theorem dX7_copyRow_15 : decode cX7_copyRow 15 = .ok (.invokestatic 200, 3) := by decide +kernel
theorem dX7_copyRow_18 : decode cX7_copyRow 18 = .ok (.return_, 1) := by decide +kernel
theorem dX7_sumOf_0 : decode cX7_sumOf 0 = .ok (.iconst 0, 1) := by decide +kernel
theorem dX7_sumOf_1 : decode cX7_sumOf 1 = .ok (.istore_n 1, 1) := by decide +kernel
theorem dX7_sumOf_2 : decode cX7_sumOf 2 = .ok (.aload_n 0, 1) := by decide +kernel
theorem dX7_sumOf_3 : decode cX7_sumOf 3 = .ok (.astore_n 2, 1) := by decide +kernel
theorem dX7_sumOf_4 : decode cX7_sumOf 4 = .ok (.aload_n 2, 1) := by decide +kernel
theorem dX7_sumOf_5 : decode cX7_sumOf 5 = .ok (.arraylength, 1) := by decide +kernel
theorem dX7_sumOf_6 : decode cX7_sumOf 6 = .ok (.istore_n 3, 1) := by decide +kernel
theorem dX7_sumOf_7 : decode cX7_sumOf 7 = .ok (.iconst 0, 1) := by decide +kernel
theorem dX7_sumOf_8 : decode cX7_sumOf 8 = .ok (.istore 4, 2) := by decide +kernel
theorem dX7_sumOf_10 : decode cX7_sumOf 10 = .ok (.iload 4, 2) := by decide +kernel
theorem dX7_sumOf_12 : decode cX7_sumOf 12 = .ok (.iload_n 3, 1) := by decide +kernel
theorem dX7_sumOf_13 : decode cX7_sumOf 13 = .ok (.if_icmp .ge 20, 3) := by decide +kernel
theorem dX7_sumOf_16 : decode cX7_sumOf 16 = .ok (.aload_n 2, 1) := by decide +kernel
theorem dX7_sumOf_17 : decode cX7_sumOf 17 = .ok (.iload 4, 2) := by decide +kernel
theorem dX7_sumOf_19 : decode cX7_sumOf 19 = .ok (.iaload, 1) := by decide +kernel
theorem dX7_sumOf_20 : decode cX7_sumOf 20 = .ok (.istore 5, 2) := by decide +kernel
theorem dX7_sumOf_22 : decode cX7_sumOf 22 = .ok (.iload_n 1, 1) := by decide +kernel
theorem dX7_sumOf_23 : decode cX7_sumOf 23 = .ok (.iload 5, 2) := by decide +kernel
theorem dX7_sumOf_25 : decode cX7_sumOf 25 = .ok (.iadd, 1) := by decide +kernel
theorem dX7_sumOf_26 : decode cX7_sumOf 26 = .ok (.istore_n 1, 1) := by decide +kernel
theorem dX7_sumOf_27 : decode cX7_sumOf 27 = .ok (.iinc 4 1, 3) := by decide +kernel
theorem dX7_sumOf_30 : decode cX7_sumOf 30 = .ok (.goto (-20), 3) := by decide +kernel
theorem dX7_sumOf_33 : decode cX7_sumOf 33 = .ok (.iload_n 1, 1) := by decide +kernel
theorem dX7_sumOf_34 : decode cX7_sumOf 34 = .ok (.ireturn, 1) := by decide +kernel
theorem dJ9_max_7cf53_0 : decode cJ9_max_7cf53 0 = .ok (.iload_n 0, 1) := by decide +kernel
theorem dJ9_max_7cf53_1 : decode cJ9_max_7cf53 1 = .ok (.iload_n 1, 1) := by decide +kernel
theorem dJ9_max_7cf53_2 : decode cJ9_max_7cf53 2 = .ok (.if_icmp .lt 7, 3) := by decide +kernel
theorem dJ9_max_7cf53_5 : decode cJ9_max_7cf53 5 = .ok (.iload_n 0, 1) := by decide +kernel
theorem dJ9_max_7cf53_6 : decode cJ9_max_7cf53 6 = .ok (.goto 4, 3) := by decide +kernel
theorem dJ9_max_7cf53_9 : decode cJ9_max_7cf53 9 = .ok (.iload_n 1, 1) := by decide +kernel
theorem dJ9_max_7cf53_10 : decode cJ9_max_7cf53 10 = .ok (.ireturn, 1) := by decide +kernel
theorem dJ9_min_7cf53_0 : decode cJ9_min_7cf53 0 = .ok (.iload_n 0, 1) := by decide +kernel
theorem dJ9_min_7cf53_1 : decode cJ9_min_7cf53 1 = .ok (.iload_n 1, 1) := by decide +kernel
theorem dJ9_min_7cf53_2 : decode cJ9_min_7cf53 2 = .ok (.if_icmp .gt 7, 3) := by decide +kernel
theorem dJ9_min_7cf53_5 : decode cJ9_min_7cf53 5 = .ok (.iload_n 0, 1) := by decide +kernel
theorem dJ9_min_7cf53_6 : decode cJ9_min_7cf53 6 = .ok (.goto 4, 3) := by decide +kernel
theorem dJ9_min_7cf53_9 : decode cJ9_min_7cf53 9 = .ok (.iload_n 1, 1) := by decide +kernel
theorem dJ9_min_7cf53_10 : decode cJ9_min_7cf53 10 = .ok (.ireturn, 1) := by decide +kernel
theorem dL_low_0 : decode cL_low 0 = .ok (.iload_n 0, 1) := by decide +kernel
theorem dL_low_1 : decode cL_low 1 = .ok (.ldc 7, 2) := by decide +kernel
theorem dL_low_3 : decode cL_low 3 = .ok (.iand, 1) := by decide +kernel
theorem dL_low_4 : decode cL_low 4 = .ok (.iload_n 1, 1) := by decide +kernel
theorem dL_low_5 : decode cL_low 5 = .ok (.irem, 1) := by decide +kernel
theorem dL_low_6 : decode cL_low 6 = .ok (.ireturn, 1) := by decide +kernel
theorem dL_cell_0 : decode cL_cell 0 = .ok (.iload_n 1, 1) := by decide +kernel
theorem dL_cell_1 : decode cL_cell 1 = .ok (.aload_n 0, 1) := by decide +kernel
theorem dL_cell_2 : decode cL_cell 2 = .ok (.arraylength, 1) := by decide +kernel
theorem dL_cell_3 : decode cL_cell 3 = .ok (.if_icmp .ge 9, 3) := by decide +kernel
theorem dL_cell_6 : decode cL_cell 6 = .ok (.aload_n 0, 1) := by decide +kernel
theorem dL_cell_7 : decode cL_cell 7 = .ok (.iload_n 1, 1) := by decide +kernel
theorem dL_cell_8 : decode cL_cell 8 = .ok (.iaload, 1) := by decide +kernel
theorem dL_cell_9 : decode cL_cell 9 = .ok (.goto 11, 3) := by decide +kernel
theorem dL_cell_12 : decode cL_cell 12 = .ok (.ldc 8, 2) := by decide +kernel
theorem dL_cell_14 : decode cL_cell 14 = .ok (.iload_n 1, 1) := by decide +kernel
theorem dL_cell_15 : decode cL_cell 15 = .ok (.imul, 1) := by decide +kernel
theorem dL_cell_16 : decode cL_cell 16 = .ok (.sipush 977, 3) := by decide +kernel
theorem dL_cell_19 : decode cL_cell 19 = .ok (.iadd, 1) := by decide +kernel
theorem dL_cell_20 : decode cL_cell 20 = .ok (.ireturn, 1) := by decide +kernel
theorem dL_tonnes_0 : decode cL_tonnes 0 = .ok (.iconst 0, 1) := by decide +kernel
theorem dL_tonnes_1 : decode cL_tonnes 1 = .ok (.istore_n 1, 1) := by decide +kernel
theorem dL_tonnes_2 : decode cL_tonnes 2 = .ok (.iconst 0, 1) := by decide +kernel
theorem dL_tonnes_3 : decode cL_tonnes 3 = .ok (.istore_n 2, 1) := by decide +kernel
theorem dL_tonnes_4 : decode cL_tonnes 4 = .ok (.iconst 0, 1) := by decide +kernel
theorem dL_tonnes_5 : decode cL_tonnes 5 = .ok (.istore_n 3, 1) := by decide +kernel
theorem dL_tonnes_6 : decode cL_tonnes 6 = .ok (.aload_n 0, 1) := by decide +kernel
theorem dL_tonnes_7 : decode cL_tonnes 7 = .ok (.iconst 1, 1) := by decide +kernel
theorem dL_tonnes_8 : decode cL_tonnes 8 = .ok (.invokevirtual 9, 3) := by decide +kernel
theorem dL_tonnes_11 : decode cL_tonnes 11 = .ok (.bipush 30, 2) := by decide +kernel
theorem dL_tonnes_13 : decode cL_tonnes 13 = .ok (.if_icmp .gt 18, 3) := by decide +kernel
theorem dL_tonnes_16 : decode cL_tonnes 16 = .ok (.aload_n 0, 1) := by decide +kernel
theorem dL_tonnes_17 : decode cL_tonnes 17 = .ok (.iconst 0, 1) := by decide +kernel
theorem dL_tonnes_18 : decode cL_tonnes 18 = .ok (.invokevirtual 9, 3) := by decide +kernel
theorem dL_tonnes_21 : decode cL_tonnes 21 = .ok (.sipush 1000, 3) := by decide +kernel
theorem dL_tonnes_24 : decode cL_tonnes 24 = .ok (.if_icmp .gt 7, 3) := by decide +kernel
theorem dL_tonnes_27 : decode cL_tonnes 27 = .ok (.iconst 1, 1) := by decide +kernel
theorem dL_tonnes_28 : decode cL_tonnes 28 = .ok (.goto 4, 3) := by decide +kernel
theorem dL_tonnes_31 : decode cL_tonnes 31 = .ok (.iconst 0, 1) := by decide +kernel
theorem dL_tonnes_32 : decode cL_tonnes 32 = .ok (.istore 4, 2) := by decide +kernel
theorem dL_tonnes_34 : decode cL_tonnes 34 = .ok (.iconst 0, 1) := by decide +kernel
theorem dL_tonnes_35 : decode cL_tonnes 35 = .ok (.istore 5, 2) := by decide +kernel
theorem dL_tonnes_37 : decode cL_tonnes 37 = .ok (.iload 5, 2) := by decide +kernel
theorem dL_tonnes_39 : decode cL_tonnes 39 = .ok (.aload_n 0, 1) := by decide +kernel
theorem dL_tonnes_40 : decode cL_tonnes 40 = .ok (.iconst 1, 1) := by decide +kernel
theorem dL_tonnes_41 : decode cL_tonnes 41 = .ok (.invokevirtual 9, 3) := by decide +kernel
theorem dL_tonnes_44 : decode cL_tonnes 44 = .ok (.if_icmp .ge 232, 3) := by decide +kernel
theorem dL_tonnes_47 : decode cL_tonnes 47 = .ok (.iload 4, 2) := by decide +kernel
theorem dL_tonnes_49 : decode cL_tonnes 49 = .ok (.ifCond .eq 227, 3) := by decide +kernel
theorem dL_tonnes_52 : decode cL_tonnes 52 = .ok (.aload_n 0, 1) := by decide +kernel
theorem dL_tonnes_53 : decode cL_tonnes 53 = .ok (.iload 5, 2) := by decide +kernel
theorem dL_tonnes_55 : decode cL_tonnes 55 = .ok (.iconst 4, 1) := by decide +kernel
theorem dL_tonnes_56 : decode cL_tonnes 56 = .ok (.invokevirtual 15, 3) := by decide +kernel
theorem dL_tonnes_59 : decode cL_tonnes 59 = .ok (.istore 6, 2) := by decide +kernel
theorem dL_tonnes_61 : decode cL_tonnes 61 = .ok (.aload_n 0, 1) := by decide +kernel
theorem dL_tonnes_62 : decode cL_tonnes 62 = .ok (.iload 5, 2) := by decide +kernel
theorem dL_tonnes_64 : decode cL_tonnes 64 = .ok (.iconst 5, 1) := by decide +kernel
theorem dL_tonnes_65 : decode cL_tonnes 65 = .ok (.invokevirtual 15, 3) := by decide +kernel
theorem dL_tonnes_68 : decode cL_tonnes 68 = .ok (.istore 7, 2) := by decide +kernel
theorem dL_tonnes_70 : decode cL_tonnes 70 = .ok (.aload_n 0, 1) := by decide +kernel
theorem dL_tonnes_71 : decode cL_tonnes 71 = .ok (.iload 5, 2) := by decide +kernel
theorem dL_tonnes_73 : decode cL_tonnes 73 = .ok (.iconst 1, 1) := by decide +kernel
theorem dL_tonnes_74 : decode cL_tonnes 74 = .ok (.invokevirtual 15, 3) := by decide +kernel
theorem dL_tonnes_77 : decode cL_tonnes 77 = .ok (.iload 7, 2) := by decide +kernel
theorem dL_tonnes_79 : decode cL_tonnes 79 = .ok (.aload_n 0, 1) := by decide +kernel
theorem dL_tonnes_80 : decode cL_tonnes 80 = .ok (.iload 5, 2) := by decide +kernel
theorem dL_tonnes_82 : decode cL_tonnes 82 = .ok (.bipush 6, 2) := by decide +kernel
theorem dL_tonnes_84 : decode cL_tonnes 84 = .ok (.invokevirtual 15, 3) := by decide +kernel
theorem dL_tonnes_87 : decode cL_tonnes 87 = .ok (.iadd, 1) := by decide +kernel
theorem dL_tonnes_88 : decode cL_tonnes 88 = .ok (.aload_n 0, 1) := by decide +kernel
theorem dL_tonnes_89 : decode cL_tonnes 89 = .ok (.iload 5, 2) := by decide +kernel
theorem dL_tonnes_91 : decode cL_tonnes 91 = .ok (.bipush 7, 2) := by decide +kernel
theorem dL_tonnes_93 : decode cL_tonnes 93 = .ok (.invokevirtual 15, 3) := by decide +kernel
theorem dL_tonnes_96 : decode cL_tonnes 96 = .ok (.iadd, 1) := by decide +kernel
theorem dL_tonnes_97 : decode cL_tonnes 97 = .ok (.aload_n 0, 1) := by decide +kernel
theorem dL_tonnes_98 : decode cL_tonnes 98 = .ok (.iload 5, 2) := by decide +kernel
theorem dL_tonnes_100 : decode cL_tonnes 100 = .ok (.bipush 8, 2) := by decide +kernel
theorem dL_tonnes_102 : decode cL_tonnes 102 = .ok (.invokevirtual 15, 3) := by decide +kernel
theorem dL_tonnes_105 : decode cL_tonnes 105 = .ok (.iadd, 1) := by decide +kernel
theorem dL_tonnes_106 : decode cL_tonnes 106 = .ok (.if_icmp .ne 128, 3) := by decide +kernel
theorem dL_tonnes_109 : decode cL_tonnes 109 = .ok (.iload 7, 2) := by decide +kernel
theorem dL_tonnes_111 : decode cL_tonnes 111 = .ok (.ifCond .lt 123, 3) := by decide +kernel
theorem dL_tonnes_114 : decode cL_tonnes 114 = .ok (.aload_n 0, 1) := by decide +kernel
theorem dL_tonnes_115 : decode cL_tonnes 115 = .ok (.iload 5, 2) := by decide +kernel
theorem dL_tonnes_117 : decode cL_tonnes 117 = .ok (.bipush 6, 2) := by decide +kernel
theorem dL_tonnes_119 : decode cL_tonnes 119 = .ok (.invokevirtual 15, 3) := by decide +kernel
theorem dL_tonnes_122 : decode cL_tonnes 122 = .ok (.ifCond .lt 112, 3) := by decide +kernel
theorem dL_tonnes_125 : decode cL_tonnes 125 = .ok (.aload_n 0, 1) := by decide +kernel
theorem dL_tonnes_126 : decode cL_tonnes 126 = .ok (.iload 5, 2) := by decide +kernel
theorem dL_tonnes_128 : decode cL_tonnes 128 = .ok (.bipush 9, 2) := by decide +kernel
theorem dL_tonnes_130 : decode cL_tonnes 130 = .ok (.invokevirtual 15, 3) := by decide +kernel
theorem dL_tonnes_133 : decode cL_tonnes 133 = .ok (.ifCond .lt 101, 3) := by decide +kernel
theorem dL_tonnes_136 : decode cL_tonnes 136 = .ok (.aload_n 0, 1) := by decide +kernel
theorem dL_tonnes_137 : decode cL_tonnes 137 = .ok (.iload 5, 2) := by decide +kernel
theorem dL_tonnes_139 : decode cL_tonnes 139 = .ok (.bipush 9, 2) := by decide +kernel
theorem dL_tonnes_141 : decode cL_tonnes 141 = .ok (.invokevirtual 15, 3) := by decide +kernel
theorem dL_tonnes_144 : decode cL_tonnes 144 = .ok (.aload_n 0, 1) := by decide +kernel
theorem dL_tonnes_145 : decode cL_tonnes 145 = .ok (.iload 5, 2) := by decide +kernel
theorem dL_tonnes_147 : decode cL_tonnes 147 = .ok (.iconst 2, 1) := by decide +kernel
theorem dL_tonnes_148 : decode cL_tonnes 148 = .ok (.invokevirtual 15, 3) := by decide +kernel
theorem dL_tonnes_151 : decode cL_tonnes 151 = .ok (.if_icmp .gt 83, 3) := by decide +kernel
theorem dL_tonnes_154 : decode cL_tonnes 154 = .ok (.iload 6, 2) := by decide +kernel
theorem dL_tonnes_156 : decode cL_tonnes 156 = .ok (.ifCond .gt 33, 3) := by decide +kernel
theorem dL_tonnes_159 : decode cL_tonnes 159 = .ok (.iload 7, 2) := by decide +kernel
theorem dL_tonnes_161 : decode cL_tonnes 161 = .ok (.aload_n 0, 1) := by decide +kernel
theorem dL_tonnes_162 : decode cL_tonnes 162 = .ok (.iload 5, 2) := by decide +kernel
theorem dL_tonnes_164 : decode cL_tonnes 164 = .ok (.iconst 1, 1) := by decide +kernel
theorem dL_tonnes_165 : decode cL_tonnes 165 = .ok (.invokevirtual 15, 3) := by decide +kernel
theorem dL_tonnes_168 : decode cL_tonnes 168 = .ok (.if_icmp .ne 66, 3) := by decide +kernel
theorem dL_tonnes_171 : decode cL_tonnes 171 = .ok (.aload_n 0, 1) := by decide +kernel
theorem dL_tonnes_172 : decode cL_tonnes 172 = .ok (.iload 5, 2) := by decide +kernel
theorem dL_tonnes_174 : decode cL_tonnes 174 = .ok (.bipush 9, 2) := by decide +kernel
theorem dL_tonnes_176 : decode cL_tonnes 176 = .ok (.invokevirtual 15, 3) := by decide +kernel
theorem dL_tonnes_179 : decode cL_tonnes 179 = .ok (.aload_n 0, 1) := by decide +kernel
theorem dL_tonnes_180 : decode cL_tonnes 180 = .ok (.iload 5, 2) := by decide +kernel
theorem dL_tonnes_182 : decode cL_tonnes 182 = .ok (.iconst 2, 1) := by decide +kernel
theorem dL_tonnes_183 : decode cL_tonnes 183 = .ok (.invokevirtual 15, 3) := by decide +kernel
theorem dL_tonnes_186 : decode cL_tonnes 186 = .ok (.if_icmp .ne 48, 3) := by decide +kernel
theorem dL_tonnes_189 : decode cL_tonnes 189 = .ok (.iload 6, 2) := by decide +kernel
theorem dL_tonnes_191 : decode cL_tonnes 191 = .ok (.iconst 2, 1) := by decide +kernel
theorem dL_tonnes_192 : decode cL_tonnes 192 = .ok (.if_icmp .lt 8, 3) := by decide +kernel
theorem dL_tonnes_195 : decode cL_tonnes 195 = .ok (.iload 7, 2) := by decide +kernel
theorem dL_tonnes_197 : decode cL_tonnes 197 = .ok (.ifCond .ne 37, 3) := by decide +kernel
theorem dL_tonnes_200 : decode cL_tonnes 200 = .ok (.iload 6, 2) := by decide +kernel
theorem dL_tonnes_202 : decode cL_tonnes 202 = .ok (.iconst 3, 1) := by decide +kernel
theorem dL_tonnes_203 : decode cL_tonnes 203 = .ok (.if_icmp .ne 7, 3) := by decide +kernel
theorem dL_tonnes_206 : decode cL_tonnes 206 = .ok (.iconst 1, 1) := by decide +kernel
theorem dL_tonnes_207 : decode cL_tonnes 207 = .ok (.goto 4, 3) := by decide +kernel
theorem dL_tonnes_210 : decode cL_tonnes 210 = .ok (.iconst 0, 1) := by decide +kernel
theorem dL_tonnes_211 : decode cL_tonnes 211 = .ok (.aload_n 0, 1) := by decide +kernel
theorem dL_tonnes_212 : decode cL_tonnes 212 = .ok (.iload 5, 2) := by decide +kernel
theorem dL_tonnes_214 : decode cL_tonnes 214 = .ok (.bipush 8, 2) := by decide +kernel
theorem dL_tonnes_216 : decode cL_tonnes 216 = .ok (.invokevirtual 15, 3) := by decide +kernel
theorem dL_tonnes_219 : decode cL_tonnes 219 = .ok (.ifCond .le 7, 3) := by decide +kernel
theorem dL_tonnes_222 : decode cL_tonnes 222 = .ok (.iconst 1, 1) := by decide +kernel
theorem dL_tonnes_223 : decode cL_tonnes 223 = .ok (.goto 4, 3) := by decide +kernel
theorem dL_tonnes_226 : decode cL_tonnes 226 = .ok (.iconst 0, 1) := by decide +kernel
theorem dL_tonnes_227 : decode cL_tonnes 227 = .ok (.if_icmp .ne 7, 3) := by decide +kernel
theorem dL_tonnes_230 : decode cL_tonnes 230 = .ok (.iconst 1, 1) := by decide +kernel
theorem dL_tonnes_231 : decode cL_tonnes 231 = .ok (.goto 4, 3) := by decide +kernel
theorem dL_tonnes_234 : decode cL_tonnes 234 = .ok (.iconst 0, 1) := by decide +kernel
theorem dL_tonnes_235 : decode cL_tonnes 235 = .ok (.istore 4, 2) := by decide +kernel
theorem dL_tonnes_237 : decode cL_tonnes 237 = .ok (.iload_n 1, 1) := by decide +kernel
theorem dL_tonnes_238 : decode cL_tonnes 238 = .ok (.aload_n 0, 1) := by decide +kernel
theorem dL_tonnes_239 : decode cL_tonnes 239 = .ok (.iload 5, 2) := by decide +kernel
theorem dL_tonnes_241 : decode cL_tonnes 241 = .ok (.bipush 6, 2) := by decide +kernel
theorem dL_tonnes_243 : decode cL_tonnes 243 = .ok (.invokevirtual 15, 3) := by decide +kernel
theorem dL_tonnes_246 : decode cL_tonnes 246 = .ok (.iadd, 1) := by decide +kernel
theorem dL_tonnes_247 : decode cL_tonnes 247 = .ok (.istore_n 1, 1) := by decide +kernel
theorem dL_tonnes_248 : decode cL_tonnes 248 = .ok (.iload_n 2, 1) := by decide +kernel
theorem dL_tonnes_249 : decode cL_tonnes 249 = .ok (.aload_n 0, 1) := by decide +kernel
theorem dL_tonnes_250 : decode cL_tonnes 250 = .ok (.iload 5, 2) := by decide +kernel
theorem dL_tonnes_252 : decode cL_tonnes 252 = .ok (.bipush 7, 2) := by decide +kernel
theorem dL_tonnes_254 : decode cL_tonnes 254 = .ok (.invokevirtual 15, 3) := by decide +kernel
theorem dL_tonnes_257 : decode cL_tonnes 257 = .ok (.iadd, 1) := by decide +kernel
theorem dL_tonnes_258 : decode cL_tonnes 258 = .ok (.istore_n 2, 1) := by decide +kernel
theorem dL_tonnes_259 : decode cL_tonnes 259 = .ok (.iload_n 3, 1) := by decide +kernel
theorem dL_tonnes_260 : decode cL_tonnes 260 = .ok (.aload_n 0, 1) := by decide +kernel
theorem dL_tonnes_261 : decode cL_tonnes 261 = .ok (.iload 5, 2) := by decide +kernel
theorem dL_tonnes_263 : decode cL_tonnes 263 = .ok (.bipush 8, 2) := by decide +kernel
theorem dL_tonnes_265 : decode cL_tonnes 265 = .ok (.invokevirtual 15, 3) := by decide +kernel
theorem dL_tonnes_268 : decode cL_tonnes 268 = .ok (.iadd, 1) := by decide +kernel
theorem dL_tonnes_269 : decode cL_tonnes 269 = .ok (.istore_n 3, 1) := by decide +kernel
theorem dL_tonnes_270 : decode cL_tonnes 270 = .ok (.iinc 5 1, 3) := by decide +kernel
theorem dL_tonnes_273 : decode cL_tonnes 273 = .ok (.goto (-236), 3) := by decide +kernel
theorem dL_tonnes_276 : decode cL_tonnes 276 = .ok (.iconst 0, 1) := by decide +kernel
theorem dL_tonnes_277 : decode cL_tonnes 277 = .ok (.istore 5, 2) := by decide +kernel
theorem dL_tonnes_279 : decode cL_tonnes 279 = .ok (.iconst 0, 1) := by decide +kernel
theorem dL_tonnes_280 : decode cL_tonnes 280 = .ok (.istore 6, 2) := by decide +kernel
theorem dL_tonnes_282 : decode cL_tonnes 282 = .ok (.iload 6, 2) := by decide +kernel
theorem dL_tonnes_284 : decode cL_tonnes 284 = .ok (.aload_n 0, 1) := by decide +kernel
theorem dL_tonnes_285 : decode cL_tonnes 285 = .ok (.iconst 4, 1) := by decide +kernel
theorem dL_tonnes_286 : decode cL_tonnes 286 = .ok (.invokevirtual 9, 3) := by decide +kernel
theorem dL_tonnes_289 : decode cL_tonnes 289 = .ok (.if_icmp .ge 109, 3) := by decide +kernel
theorem dL_tonnes_292 : decode cL_tonnes 292 = .ok (.iload 4, 2) := by decide +kernel
theorem dL_tonnes_294 : decode cL_tonnes 294 = .ok (.ifCond .eq 104, 3) := by decide +kernel
theorem dL_tonnes_297 : decode cL_tonnes 297 = .ok (.aload_n 0, 1) := by decide +kernel
theorem dL_tonnes_298 : decode cL_tonnes 298 = .ok (.iload 6, 2) := by decide +kernel
theorem dL_tonnes_300 : decode cL_tonnes 300 = .ok (.iconst 1, 1) := by decide +kernel
theorem dL_tonnes_301 : decode cL_tonnes 301 = .ok (.invokevirtual 19, 3) := by decide +kernel
theorem dL_tonnes_304 : decode cL_tonnes 304 = .ok (.ifCond .le 73, 3) := by decide +kernel
theorem dL_tonnes_307 : decode cL_tonnes 307 = .ok (.aload_n 0, 1) := by decide +kernel
theorem dL_tonnes_308 : decode cL_tonnes 308 = .ok (.iload 6, 2) := by decide +kernel
theorem dL_tonnes_310 : decode cL_tonnes 310 = .ok (.iconst 1, 1) := by decide +kernel
theorem dL_tonnes_311 : decode cL_tonnes 311 = .ok (.invokevirtual 19, 3) := by decide +kernel
theorem dL_tonnes_314 : decode cL_tonnes 314 = .ok (.bipush 30, 2) := by decide +kernel
theorem dL_tonnes_316 : decode cL_tonnes 316 = .ok (.if_icmp .gt 61, 3) := by decide +kernel
theorem dL_tonnes_319 : decode cL_tonnes 319 = .ok (.aload_n 0, 1) := by decide +kernel
theorem dL_tonnes_320 : decode cL_tonnes 320 = .ok (.iload 6, 2) := by decide +kernel
theorem dL_tonnes_322 : decode cL_tonnes 322 = .ok (.iconst 2, 1) := by decide +kernel
theorem dL_tonnes_323 : decode cL_tonnes 323 = .ok (.invokevirtual 19, 3) := by decide +kernel
theorem dL_tonnes_326 : decode cL_tonnes 326 = .ok (.aload_n 0, 1) := by decide +kernel
theorem dL_tonnes_327 : decode cL_tonnes 327 = .ok (.iconst 0, 1) := by decide +kernel
theorem dL_tonnes_328 : decode cL_tonnes 328 = .ok (.invokevirtual 9, 3) := by decide +kernel
theorem dL_tonnes_331 : decode cL_tonnes 331 = .ok (.if_icmp .ge 46, 3) := by decide +kernel
theorem dL_tonnes_334 : decode cL_tonnes 334 = .ok (.iload 6, 2) := by decide +kernel
theorem dL_tonnes_336 : decode cL_tonnes 336 = .ok (.ifCond .eq 22, 3) := by decide +kernel
theorem dL_tonnes_339 : decode cL_tonnes 339 = .ok (.aload_n 0, 1) := by decide +kernel
theorem dL_tonnes_340 : decode cL_tonnes 340 = .ok (.iload 6, 2) := by decide +kernel
theorem dL_tonnes_342 : decode cL_tonnes 342 = .ok (.iconst 2, 1) := by decide +kernel
theorem dL_tonnes_343 : decode cL_tonnes 343 = .ok (.invokevirtual 19, 3) := by decide +kernel
theorem dL_tonnes_346 : decode cL_tonnes 346 = .ok (.aload_n 0, 1) := by decide +kernel
theorem dL_tonnes_347 : decode cL_tonnes 347 = .ok (.iload 6, 2) := by decide +kernel
theorem dL_tonnes_349 : decode cL_tonnes 349 = .ok (.iconst 1, 1) := by decide +kernel
theorem dL_tonnes_350 : decode cL_tonnes 350 = .ok (.isub, 1) := by decide +kernel
theorem dL_tonnes_351 : decode cL_tonnes 351 = .ok (.iconst 2, 1) := by decide +kernel
theorem dL_tonnes_352 : decode cL_tonnes 352 = .ok (.invokevirtual 19, 3) := by decide +kernel
theorem dL_tonnes_355 : decode cL_tonnes 355 = .ok (.if_icmp .lt 22, 3) := by decide +kernel
theorem dL_tonnes_358 : decode cL_tonnes 358 = .ok (.aload_n 0, 1) := by decide +kernel
theorem dL_tonnes_359 : decode cL_tonnes 359 = .ok (.iload 6, 2) := by decide +kernel
theorem dL_tonnes_361 : decode cL_tonnes 361 = .ok (.iconst 0, 1) := by decide +kernel
theorem dL_tonnes_362 : decode cL_tonnes 362 = .ok (.invokevirtual 19, 3) := by decide +kernel
theorem dL_tonnes_365 : decode cL_tonnes 365 = .ok (.aload_n 0, 1) := by decide +kernel
theorem dL_tonnes_366 : decode cL_tonnes 366 = .ok (.iconst 1, 1) := by decide +kernel
theorem dL_tonnes_367 : decode cL_tonnes 367 = .ok (.invokevirtual 9, 3) := by decide +kernel
theorem dL_tonnes_370 : decode cL_tonnes 370 = .ok (.if_icmp .ge 7, 3) := by decide +kernel
theorem dL_tonnes_373 : decode cL_tonnes 373 = .ok (.iconst 1, 1) := by decide +kernel
theorem dL_tonnes_374 : decode cL_tonnes 374 = .ok (.goto 4, 3) := by decide +kernel
theorem dL_tonnes_377 : decode cL_tonnes 377 = .ok (.iconst 0, 1) := by decide +kernel
theorem dL_tonnes_378 : decode cL_tonnes 378 = .ok (.istore 4, 2) := by decide +kernel
theorem dL_tonnes_380 : decode cL_tonnes 380 = .ok (.iload 5, 2) := by decide +kernel
theorem dL_tonnes_382 : decode cL_tonnes 382 = .ok (.aload_n 0, 1) := by decide +kernel
theorem dL_tonnes_383 : decode cL_tonnes 383 = .ok (.iload 6, 2) := by decide +kernel
theorem dL_tonnes_385 : decode cL_tonnes 385 = .ok (.iconst 1, 1) := by decide +kernel
theorem dL_tonnes_386 : decode cL_tonnes 386 = .ok (.invokevirtual 19, 3) := by decide +kernel
theorem dL_tonnes_389 : decode cL_tonnes 389 = .ok (.iadd, 1) := by decide +kernel
theorem dL_tonnes_390 : decode cL_tonnes 390 = .ok (.istore 5, 2) := by decide +kernel
theorem dL_tonnes_392 : decode cL_tonnes 392 = .ok (.iinc 6 1, 3) := by decide +kernel
theorem dL_tonnes_395 : decode cL_tonnes 395 = .ok (.goto (-113), 3) := by decide +kernel
theorem dL_tonnes_398 : decode cL_tonnes 398 = .ok (.iload 4, 2) := by decide +kernel
theorem dL_tonnes_400 : decode cL_tonnes 400 = .ok (.ifCond .eq 62, 3) := by decide +kernel
theorem dL_tonnes_403 : decode cL_tonnes 403 = .ok (.iload_n 1, 1) := by decide +kernel
theorem dL_tonnes_404 : decode cL_tonnes 404 = .ok (.aload_n 0, 1) := by decide +kernel
theorem dL_tonnes_405 : decode cL_tonnes 405 = .ok (.iconst 3, 1) := by decide +kernel
theorem dL_tonnes_406 : decode cL_tonnes 406 = .ok (.invokevirtual 9, 3) := by decide +kernel
theorem dL_tonnes_409 : decode cL_tonnes 409 = .ok (.if_icmp .ne 53, 3) := by decide +kernel
theorem dL_tonnes_412 : decode cL_tonnes 412 = .ok (.iload 5, 2) := by decide +kernel
theorem dL_tonnes_414 : decode cL_tonnes 414 = .ok (.iload_n 1, 1) := by decide +kernel
theorem dL_tonnes_415 : decode cL_tonnes 415 = .ok (.if_icmp .ne 47, 3) := by decide +kernel
theorem dL_tonnes_418 : decode cL_tonnes 418 = .ok (.iload_n 2, 1) := by decide +kernel
theorem dL_tonnes_419 : decode cL_tonnes 419 = .ok (.aload_n 0, 1) := by decide +kernel
theorem dL_tonnes_420 : decode cL_tonnes 420 = .ok (.iconst 5, 1) := by decide +kernel
theorem dL_tonnes_421 : decode cL_tonnes 421 = .ok (.invokevirtual 9, 3) := by decide +kernel
theorem dL_tonnes_424 : decode cL_tonnes 424 = .ok (.if_icmp .ne 38, 3) := by decide +kernel
theorem dL_tonnes_427 : decode cL_tonnes 427 = .ok (.iload_n 3, 1) := by decide +kernel
theorem dL_tonnes_428 : decode cL_tonnes 428 = .ok (.aload_n 0, 1) := by decide +kernel
theorem dL_tonnes_429 : decode cL_tonnes 429 = .ok (.bipush 7, 2) := by decide +kernel
theorem dL_tonnes_431 : decode cL_tonnes 431 = .ok (.invokevirtual 9, 3) := by decide +kernel
theorem dL_tonnes_434 : decode cL_tonnes 434 = .ok (.if_icmp .ne 28, 3) := by decide +kernel
theorem dL_tonnes_437 : decode cL_tonnes 437 = .ok (.aload_n 0, 1) := by decide +kernel
theorem dL_tonnes_438 : decode cL_tonnes 438 = .ok (.aload_n 0, 1) := by decide +kernel
theorem dL_tonnes_439 : decode cL_tonnes 439 = .ok (.iconst 4, 1) := by decide +kernel
theorem dL_tonnes_440 : decode cL_tonnes 440 = .ok (.invokevirtual 9, 3) := by decide +kernel
theorem dL_tonnes_443 : decode cL_tonnes 443 = .ok (.iconst 0, 1) := by decide +kernel
theorem dL_tonnes_444 : decode cL_tonnes 444 = .ok (.invokevirtual 19, 3) := by decide +kernel
theorem dL_tonnes_447 : decode cL_tonnes 447 = .ok (.iconst (-1), 1) := by decide +kernel
theorem dL_tonnes_448 : decode cL_tonnes 448 = .ok (.if_icmp .ne 14, 3) := by decide +kernel
theorem dL_tonnes_451 : decode cL_tonnes 451 = .ok (.iload_n 1, 1) := by decide +kernel
theorem dL_tonnes_452 : decode cL_tonnes 452 = .ok (.sipush 400, 3) := by decide +kernel
theorem dL_tonnes_455 : decode cL_tonnes 455 = .ok (.if_icmp .gt 7, 3) := by decide +kernel
theorem dL_tonnes_458 : decode cL_tonnes 458 = .ok (.iconst 1, 1) := by decide +kernel
theorem dL_tonnes_459 : decode cL_tonnes 459 = .ok (.goto 4, 3) := by decide +kernel
theorem dL_tonnes_462 : decode cL_tonnes 462 = .ok (.iconst 0, 1) := by decide +kernel
theorem dL_tonnes_463 : decode cL_tonnes 463 = .ok (.istore 4, 2) := by decide +kernel
theorem dL_tonnes_465 : decode cL_tonnes 465 = .ok (.iconst 0, 1) := by decide +kernel
theorem dL_tonnes_466 : decode cL_tonnes 466 = .ok (.istore 6, 2) := by decide +kernel
theorem dL_tonnes_468 : decode cL_tonnes 468 = .ok (.iconst 0, 1) := by decide +kernel
theorem dL_tonnes_469 : decode cL_tonnes 469 = .ok (.istore 7, 2) := by decide +kernel
theorem dL_tonnes_471 : decode cL_tonnes 471 = .ok (.iload 7, 2) := by decide +kernel
theorem dL_tonnes_473 : decode cL_tonnes 473 = .ok (.bipush 6, 2) := by decide +kernel
theorem dL_tonnes_475 : decode cL_tonnes 475 = .ok (.if_icmp .ge 206, 3) := by decide +kernel
theorem dL_tonnes_478 : decode cL_tonnes 478 = .ok (.iload 4, 2) := by decide +kernel
theorem dL_tonnes_480 : decode cL_tonnes 480 = .ok (.ifCond .eq 201, 3) := by decide +kernel
theorem dL_tonnes_483 : decode cL_tonnes 483 = .ok (.iconst 0, 1) := by decide +kernel
theorem dL_tonnes_484 : decode cL_tonnes 484 = .ok (.istore 8, 2) := by decide +kernel
theorem dL_tonnes_486 : decode cL_tonnes 486 = .ok (.iconst 0, 1) := by decide +kernel
theorem dL_tonnes_487 : decode cL_tonnes 487 = .ok (.istore 9, 2) := by decide +kernel
theorem dL_tonnes_489 : decode cL_tonnes 489 = .ok (.iconst 0, 1) := by decide +kernel
theorem dL_tonnes_490 : decode cL_tonnes 490 = .ok (.istore 10, 2) := by decide +kernel
theorem dL_tonnes_492 : decode cL_tonnes 492 = .ok (.iload 10, 2) := by decide +kernel
theorem dL_tonnes_494 : decode cL_tonnes 494 = .ok (.aload_n 0, 1) := by decide +kernel
theorem dL_tonnes_495 : decode cL_tonnes 495 = .ok (.iconst 1, 1) := by decide +kernel
theorem dL_tonnes_496 : decode cL_tonnes 496 = .ok (.invokevirtual 9, 3) := by decide +kernel
theorem dL_tonnes_499 : decode cL_tonnes 499 = .ok (.if_icmp .ge 82, 3) := by decide +kernel
theorem dL_tonnes_502 : decode cL_tonnes 502 = .ok (.aload_n 0, 1) := by decide +kernel
theorem dL_tonnes_503 : decode cL_tonnes 503 = .ok (.iload 10, 2) := by decide +kernel
theorem dL_tonnes_505 : decode cL_tonnes 505 = .ok (.iconst 0, 1) := by decide +kernel
theorem dL_tonnes_506 : decode cL_tonnes 506 = .ok (.invokevirtual 15, 3) := by decide +kernel
theorem dL_tonnes_509 : decode cL_tonnes 509 = .ok (.iload 7, 2) := by decide +kernel
theorem dL_tonnes_511 : decode cL_tonnes 511 = .ok (.if_icmp .ne 7, 3) := by decide +kernel
theorem dL_tonnes_514 : decode cL_tonnes 514 = .ok (.iconst 1, 1) := by decide +kernel
theorem dL_tonnes_515 : decode cL_tonnes 515 = .ok (.goto 4, 3) := by decide +kernel
theorem dL_tonnes_518 : decode cL_tonnes 518 = .ok (.iconst 0, 1) := by decide +kernel
theorem dL_tonnes_519 : decode cL_tonnes 519 = .ok (.istore 11, 2) := by decide +kernel
theorem dL_tonnes_521 : decode cL_tonnes 521 = .ok (.iload 8, 2) := by decide +kernel
theorem dL_tonnes_523 : decode cL_tonnes 523 = .ok (.iload 11, 2) := by decide +kernel
theorem dL_tonnes_525 : decode cL_tonnes 525 = .ok (.ifCond .eq 24, 3) := by decide +kernel
theorem dL_tonnes_528 : decode cL_tonnes 528 = .ok (.aload_n 0, 1) := by decide +kernel
theorem dL_tonnes_529 : decode cL_tonnes 529 = .ok (.iload 10, 2) := by decide +kernel
theorem dL_tonnes_531 : decode cL_tonnes 531 = .ok (.iconst 4, 1) := by decide +kernel
theorem dL_tonnes_532 : decode cL_tonnes 532 = .ok (.invokevirtual 15, 3) := by decide +kernel
theorem dL_tonnes_535 : decode cL_tonnes 535 = .ok (.iconst 1, 1) := by decide +kernel
theorem dL_tonnes_536 : decode cL_tonnes 536 = .ok (.if_icmp .ne 13, 3) := by decide +kernel
theorem dL_tonnes_539 : decode cL_tonnes 539 = .ok (.aload_n 0, 1) := by decide +kernel
theorem dL_tonnes_540 : decode cL_tonnes 540 = .ok (.iload 10, 2) := by decide +kernel
theorem dL_tonnes_542 : decode cL_tonnes 542 = .ok (.iconst 5, 1) := by decide +kernel
theorem dL_tonnes_543 : decode cL_tonnes 543 = .ok (.invokevirtual 15, 3) := by decide +kernel
theorem dL_tonnes_546 : decode cL_tonnes 546 = .ok (.goto 4, 3) := by decide +kernel
theorem dL_tonnes_549 : decode cL_tonnes 549 = .ok (.iconst 0, 1) := by decide +kernel
theorem dL_tonnes_550 : decode cL_tonnes 550 = .ok (.iadd, 1) := by decide +kernel
theorem dL_tonnes_551 : decode cL_tonnes 551 = .ok (.istore 8, 2) := by decide +kernel
theorem dL_tonnes_553 : decode cL_tonnes 553 = .ok (.iload 9, 2) := by decide +kernel
theorem dL_tonnes_555 : decode cL_tonnes 555 = .ok (.iload 11, 2) := by decide +kernel
theorem dL_tonnes_557 : decode cL_tonnes 557 = .ok (.ifCond .eq 14, 3) := by decide +kernel
theorem dL_tonnes_560 : decode cL_tonnes 560 = .ok (.aload_n 0, 1) := by decide +kernel
theorem dL_tonnes_561 : decode cL_tonnes 561 = .ok (.iload 10, 2) := by decide +kernel
theorem dL_tonnes_563 : decode cL_tonnes 563 = .ok (.bipush 6, 2) := by decide +kernel
theorem dL_tonnes_565 : decode cL_tonnes 565 = .ok (.invokevirtual 15, 3) := by decide +kernel
theorem dL_tonnes_568 : decode cL_tonnes 568 = .ok (.goto 4, 3) := by decide +kernel
theorem dL_tonnes_571 : decode cL_tonnes 571 = .ok (.iconst 0, 1) := by decide +kernel
theorem dL_tonnes_572 : decode cL_tonnes 572 = .ok (.iadd, 1) := by decide +kernel
theorem dL_tonnes_573 : decode cL_tonnes 573 = .ok (.istore 9, 2) := by decide +kernel
theorem dL_tonnes_575 : decode cL_tonnes 575 = .ok (.iinc 10 1, 3) := by decide +kernel
theorem dL_tonnes_578 : decode cL_tonnes 578 = .ok (.goto (-86), 3) := by decide +kernel
theorem dL_tonnes_581 : decode cL_tonnes 581 = .ok (.aload_n 0, 1) := by decide +kernel
theorem dL_tonnes_582 : decode cL_tonnes 582 = .ok (.iload 7, 2) := by decide +kernel
theorem dL_tonnes_584 : decode cL_tonnes 584 = .ok (.iconst 5, 1) := by decide +kernel
theorem dL_tonnes_585 : decode cL_tonnes 585 = .ok (.invokevirtual 22, 3) := by decide +kernel
theorem dL_tonnes_588 : decode cL_tonnes 588 = .ok (.iload 8, 2) := by decide +kernel
theorem dL_tonnes_590 : decode cL_tonnes 590 = .ok (.if_icmp .ne 50, 3) := by decide +kernel
theorem dL_tonnes_593 : decode cL_tonnes 593 = .ok (.aload_n 0, 1) := by decide +kernel
theorem dL_tonnes_594 : decode cL_tonnes 594 = .ok (.iload 7, 2) := by decide +kernel
theorem dL_tonnes_596 : decode cL_tonnes 596 = .ok (.iconst 1, 1) := by decide +kernel
theorem dL_tonnes_597 : decode cL_tonnes 597 = .ok (.invokevirtual 22, 3) := by decide +kernel
theorem dL_tonnes_600 : decode cL_tonnes 600 = .ok (.aload_n 0, 1) := by decide +kernel
theorem dL_tonnes_601 : decode cL_tonnes 601 = .ok (.iload 7, 2) := by decide +kernel
theorem dL_tonnes_603 : decode cL_tonnes 603 = .ok (.iconst 2, 1) := by decide +kernel
theorem dL_tonnes_604 : decode cL_tonnes 604 = .ok (.invokevirtual 22, 3) := by decide +kernel
theorem dL_tonnes_607 : decode cL_tonnes 607 = .ok (.iload 9, 2) := by decide +kernel
theorem dL_tonnes_609 : decode cL_tonnes 609 = .ok (.iadd, 1) := by decide +kernel
theorem dL_tonnes_610 : decode cL_tonnes 610 = .ok (.if_icmp .ne 30, 3) := by decide +kernel
theorem dL_tonnes_613 : decode cL_tonnes 613 = .ok (.aload_n 0, 1) := by decide +kernel
theorem dL_tonnes_614 : decode cL_tonnes 614 = .ok (.iload 7, 2) := by decide +kernel
theorem dL_tonnes_616 : decode cL_tonnes 616 = .ok (.iconst 0, 1) := by decide +kernel
theorem dL_tonnes_617 : decode cL_tonnes 617 = .ok (.invokevirtual 22, 3) := by decide +kernel
theorem dL_tonnes_620 : decode cL_tonnes 620 = .ok (.ifCond .lt 20, 3) := by decide +kernel
theorem dL_tonnes_623 : decode cL_tonnes 623 = .ok (.aload_n 0, 1) := by decide +kernel
theorem dL_tonnes_624 : decode cL_tonnes 624 = .ok (.iload 7, 2) := by decide +kernel
theorem dL_tonnes_626 : decode cL_tonnes 626 = .ok (.iconst 0, 1) := by decide +kernel
theorem dL_tonnes_627 : decode cL_tonnes 627 = .ok (.invokevirtual 22, 3) := by decide +kernel
theorem dL_tonnes_630 : decode cL_tonnes 630 = .ok (.sipush 9999, 3) := by decide +kernel
theorem dL_tonnes_633 : decode cL_tonnes 633 = .ok (.if_icmp .gt 7, 3) := by decide +kernel
theorem dL_tonnes_636 : decode cL_tonnes 636 = .ok (.iconst 1, 1) := by decide +kernel
theorem dL_tonnes_637 : decode cL_tonnes 637 = .ok (.goto 4, 3) := by decide +kernel
theorem dL_tonnes_640 : decode cL_tonnes 640 = .ok (.iconst 0, 1) := by decide +kernel
theorem dL_tonnes_641 : decode cL_tonnes 641 = .ok (.istore 4, 2) := by decide +kernel
theorem dL_tonnes_643 : decode cL_tonnes 643 = .ok (.iload 6, 2) := by decide +kernel
theorem dL_tonnes_645 : decode cL_tonnes 645 = .ok (.aload_n 0, 1) := by decide +kernel
theorem dL_tonnes_646 : decode cL_tonnes 646 = .ok (.iload 7, 2) := by decide +kernel
theorem dL_tonnes_648 : decode cL_tonnes 648 = .ok (.iconst 4, 1) := by decide +kernel
theorem dL_tonnes_649 : decode cL_tonnes 649 = .ok (.invokevirtual 22, 3) := by decide +kernel
theorem dL_tonnes_652 : decode cL_tonnes 652 = .ok (.iadd, 1) := by decide +kernel
theorem dL_tonnes_653 : decode cL_tonnes 653 = .ok (.istore 6, 2) := by decide +kernel
theorem dL_tonnes_655 : decode cL_tonnes 655 = .ok (.iload_n 2, 1) := by decide +kernel
theorem dL_tonnes_656 : decode cL_tonnes 656 = .ok (.aload_n 0, 1) := by decide +kernel
theorem dL_tonnes_657 : decode cL_tonnes 657 = .ok (.iload 7, 2) := by decide +kernel
theorem dL_tonnes_659 : decode cL_tonnes 659 = .ok (.iconst 2, 1) := by decide +kernel
theorem dL_tonnes_660 : decode cL_tonnes 660 = .ok (.invokevirtual 22, 3) := by decide +kernel
theorem dL_tonnes_663 : decode cL_tonnes 663 = .ok (.isub, 1) := by decide +kernel
theorem dL_tonnes_664 : decode cL_tonnes 664 = .ok (.istore_n 2, 1) := by decide +kernel
theorem dL_tonnes_665 : decode cL_tonnes 665 = .ok (.iload_n 3, 1) := by decide +kernel
theorem dL_tonnes_666 : decode cL_tonnes 666 = .ok (.aload_n 0, 1) := by decide +kernel
theorem dL_tonnes_667 : decode cL_tonnes 667 = .ok (.iload 7, 2) := by decide +kernel
theorem dL_tonnes_669 : decode cL_tonnes 669 = .ok (.iconst 3, 1) := by decide +kernel
theorem dL_tonnes_670 : decode cL_tonnes 670 = .ok (.invokevirtual 22, 3) := by decide +kernel
theorem dL_tonnes_673 : decode cL_tonnes 673 = .ok (.isub, 1) := by decide +kernel
theorem dL_tonnes_674 : decode cL_tonnes 674 = .ok (.istore_n 3, 1) := by decide +kernel
theorem dL_tonnes_675 : decode cL_tonnes 675 = .ok (.iinc 7 1, 3) := by decide +kernel
theorem dL_tonnes_678 : decode cL_tonnes 678 = .ok (.goto (-207), 3) := by decide +kernel
theorem dL_tonnes_681 : decode cL_tonnes 681 = .ok (.iload 4, 2) := by decide +kernel
theorem dL_tonnes_683 : decode cL_tonnes 683 = .ok (.ifCond .eq 40, 3) := by decide +kernel
theorem dL_tonnes_686 : decode cL_tonnes 686 = .ok (.iload 6, 2) := by decide +kernel
theorem dL_tonnes_688 : decode cL_tonnes 688 = .ok (.aload_n 0, 1) := by decide +kernel
theorem dL_tonnes_689 : decode cL_tonnes 689 = .ok (.bipush 8, 2) := by decide +kernel
theorem dL_tonnes_691 : decode cL_tonnes 691 = .ok (.invokevirtual 9, 3) := by decide +kernel
theorem dL_tonnes_694 : decode cL_tonnes 694 = .ok (.if_icmp .ne 29, 3) := by decide +kernel
theorem dL_tonnes_697 : decode cL_tonnes 697 = .ok (.iload_n 2, 1) := by decide +kernel
theorem dL_tonnes_698 : decode cL_tonnes 698 = .ok (.ifCond .ne 25, 3) := by decide +kernel
theorem dL_tonnes_701 : decode cL_tonnes 701 = .ok (.iload_n 3, 1) := by decide +kernel
theorem dL_tonnes_702 : decode cL_tonnes 702 = .ok (.ifCond .ne 21, 3) := by decide +kernel
theorem dL_tonnes_705 : decode cL_tonnes 705 = .ok (.aload_n 0, 1) := by decide +kernel
theorem dL_tonnes_706 : decode cL_tonnes 706 = .ok (.bipush 6, 2) := by decide +kernel
theorem dL_tonnes_708 : decode cL_tonnes 708 = .ok (.invokevirtual 9, 3) := by decide +kernel
theorem dL_tonnes_711 : decode cL_tonnes 711 = .ok (.aload_n 0, 1) := by decide +kernel
theorem dL_tonnes_712 : decode cL_tonnes 712 = .ok (.iconst 5, 1) := by decide +kernel
theorem dL_tonnes_713 : decode cL_tonnes 713 = .ok (.invokevirtual 9, 3) := by decide +kernel
theorem dL_tonnes_716 : decode cL_tonnes 716 = .ok (.if_icmp .gt 7, 3) := by decide +kernel
theorem dL_tonnes_719 : decode cL_tonnes 719 = .ok (.iconst 1, 1) := by decide +kernel
theorem dL_tonnes_720 : decode cL_tonnes 720 = .ok (.goto 4, 3) := by decide +kernel
theorem dL_tonnes_723 : decode cL_tonnes 723 = .ok (.iconst 0, 1) := by decide +kernel
theorem dL_tonnes_724 : decode cL_tonnes 724 = .ok (.ireturn, 1) := by decide +kernel
theorem dL_looks_0 : decode cL_looks 0 = .ok (.lconst 0, 1) := by decide +kernel
theorem dL_looks_1 : decode cL_looks 1 = .ok (.lstore_n 1, 1) := by decide +kernel
theorem dL_looks_2 : decode cL_looks 2 = .ok (.iconst 1, 1) := by decide +kernel
theorem dL_looks_3 : decode cL_looks 3 = .ok (.istore_n 3, 1) := by decide +kernel
theorem dL_looks_4 : decode cL_looks 4 = .ok (.iconst 0, 1) := by decide +kernel
theorem dL_looks_5 : decode cL_looks 5 = .ok (.istore 4, 2) := by decide +kernel
theorem dL_looks_7 : decode cL_looks 7 = .ok (.iload 4, 2) := by decide +kernel
theorem dL_looks_9 : decode cL_looks 9 = .ok (.iconst 4, 1) := by decide +kernel
theorem dL_looks_10 : decode cL_looks 10 = .ok (.if_icmp .ge 41, 3) := by decide +kernel
theorem dL_looks_13 : decode cL_looks 13 = .ok (.iload_n 3, 1) := by decide +kernel
theorem dL_looks_14 : decode cL_looks 14 = .ok (.ifCond .eq 37, 3) := by decide +kernel
theorem dL_looks_17 : decode cL_looks 17 = .ok (.lload_n 1, 1) := by decide +kernel
theorem dL_looks_18 : decode cL_looks 18 = .ok (.aload_n 0, 1) := by decide +kernel
theorem dL_looks_19 : decode cL_looks 19 = .ok (.iload 4, 2) := by decide +kernel
theorem dL_looks_21 : decode cL_looks 21 = .ok (.invokevirtual 25, 3) := by decide +kernel
theorem dL_looks_24 : decode cL_looks 24 = .ok (.land, 1) := by decide +kernel
theorem dL_looks_25 : decode cL_looks 25 = .ok (.lconst 0, 1) := by decide +kernel
theorem dL_looks_26 : decode cL_looks 26 = .ok (.lcmp, 1) := by decide +kernel
theorem dL_looks_27 : decode cL_looks 27 = .ok (.ifCond .ne 7, 3) := by decide +kernel
theorem dL_looks_30 : decode cL_looks 30 = .ok (.iconst 1, 1) := by decide +kernel
theorem dL_looks_31 : decode cL_looks 31 = .ok (.goto 4, 3) := by decide +kernel
theorem dL_looks_34 : decode cL_looks 34 = .ok (.iconst 0, 1) := by decide +kernel
theorem dL_looks_35 : decode cL_looks 35 = .ok (.istore_n 3, 1) := by decide +kernel
theorem dL_looks_36 : decode cL_looks 36 = .ok (.lload_n 1, 1) := by decide +kernel
theorem dL_looks_37 : decode cL_looks 37 = .ok (.aload_n 0, 1) := by decide +kernel
theorem dL_looks_38 : decode cL_looks 38 = .ok (.iload 4, 2) := by decide +kernel
theorem dL_looks_40 : decode cL_looks 40 = .ok (.invokevirtual 25, 3) := by decide +kernel
theorem dL_looks_43 : decode cL_looks 43 = .ok (.lor, 1) := by decide +kernel
theorem dL_looks_44 : decode cL_looks 44 = .ok (.lstore_n 1, 1) := by decide +kernel
theorem dL_looks_45 : decode cL_looks 45 = .ok (.iinc 4 1, 3) := by decide +kernel
theorem dL_looks_48 : decode cL_looks 48 = .ok (.goto (-41), 3) := by decide +kernel
theorem dL_looks_51 : decode cL_looks 51 = .ok (.aload_n 0, 1) := by decide +kernel
theorem dL_looks_52 : decode cL_looks 52 = .ok (.invokevirtual 29, 3) := by decide +kernel
theorem dL_looks_55 : decode cL_looks 55 = .ok (.istore 4, 2) := by decide +kernel
theorem dL_looks_57 : decode cL_looks 57 = .ok (.iload_n 3, 1) := by decide +kernel
theorem dL_looks_58 : decode cL_looks 58 = .ok (.ifCond .eq 68, 3) := by decide +kernel
theorem dL_looks_61 : decode cL_looks 61 = .ok (.lload_n 1, 1) := by decide +kernel
theorem dL_looks_62 : decode cL_looks 62 = .ok (.lconst 1, 1) := by decide +kernel
theorem dL_looks_63 : decode cL_looks 63 = .ok (.aload_n 0, 1) := by decide +kernel
theorem dL_looks_64 : decode cL_looks 64 = .ok (.iconst 1, 1) := by decide +kernel
theorem dL_looks_65 : decode cL_looks 65 = .ok (.invokevirtual 9, 3) := by decide +kernel
theorem dL_looks_68 : decode cL_looks 68 = .ok (.lshl, 1) := by decide +kernel
theorem dL_looks_69 : decode cL_looks 69 = .ok (.lconst 1, 1) := by decide +kernel
theorem dL_looks_70 : decode cL_looks 70 = .ok (.lsub, 1) := by decide +kernel
theorem dL_looks_71 : decode cL_looks 71 = .ok (.lcmp, 1) := by decide +kernel
theorem dL_looks_72 : decode cL_looks 72 = .ok (.ifCond .ne 54, 3) := by decide +kernel
theorem dL_looks_75 : decode cL_looks 75 = .ok (.iload 4, 2) := by decide +kernel
theorem dL_looks_77 : decode cL_looks 77 = .ok (.bipush (-6), 2) := by decide +kernel
theorem dL_looks_79 : decode cL_looks 79 = .ok (.if_icmp .eq 43, 3) := by decide +kernel
theorem dL_looks_82 : decode cL_looks 82 = .ok (.aload_n 0, 1) := by decide +kernel
theorem dL_looks_83 : decode cL_looks 83 = .ok (.iload 4, 2) := by decide +kernel
theorem dL_looks_85 : decode cL_looks 85 = .ok (.iconst 4, 1) := by decide +kernel
theorem dL_looks_86 : decode cL_looks 86 = .ok (.invokevirtual 15, 3) := by decide +kernel
theorem dL_looks_89 : decode cL_looks 89 = .ok (.iconst 1, 1) := by decide +kernel
theorem dL_looks_90 : decode cL_looks 90 = .ok (.if_icmp .ne 36, 3) := by decide +kernel
theorem dL_looks_93 : decode cL_looks 93 = .ok (.aload_n 0, 1) := by decide +kernel
theorem dL_looks_94 : decode cL_looks 94 = .ok (.aload_n 0, 1) := by decide +kernel
theorem dL_looks_95 : decode cL_looks 95 = .ok (.iload 4, 2) := by decide +kernel
theorem dL_looks_97 : decode cL_looks 97 = .ok (.iconst 0, 1) := by decide +kernel
theorem dL_looks_98 : decode cL_looks 98 = .ok (.invokevirtual 15, 3) := by decide +kernel
theorem dL_looks_101 : decode cL_looks 101 = .ok (.iconst 0, 1) := by decide +kernel
theorem dL_looks_102 : decode cL_looks 102 = .ok (.invokevirtual 22, 3) := by decide +kernel
theorem dL_looks_105 : decode cL_looks 105 = .ok (.ifCond .le 21, 3) := by decide +kernel
theorem dL_looks_108 : decode cL_looks 108 = .ok (.aload_n 0, 1) := by decide +kernel
theorem dL_looks_109 : decode cL_looks 109 = .ok (.iconst 3, 1) := by decide +kernel
theorem dL_looks_110 : decode cL_looks 110 = .ok (.invokevirtual 9, 3) := by decide +kernel
theorem dL_looks_113 : decode cL_looks 113 = .ok (.aload_n 0, 1) := by decide +kernel
theorem dL_looks_114 : decode cL_looks 114 = .ok (.bipush 14, 2) := by decide +kernel
theorem dL_looks_116 : decode cL_looks 116 = .ok (.invokevirtual 9, 3) := by decide +kernel
theorem dL_looks_119 : decode cL_looks 119 = .ok (.if_icmp .ge 7, 3) := by decide +kernel
theorem dL_looks_122 : decode cL_looks 122 = .ok (.iconst 1, 1) := by decide +kernel
theorem dL_looks_123 : decode cL_looks 123 = .ok (.goto 4, 3) := by decide +kernel
theorem dL_looks_126 : decode cL_looks 126 = .ok (.iconst 0, 1) := by decide +kernel
theorem dL_looks_127 : decode cL_looks 127 = .ok (.istore_n 3, 1) := by decide +kernel
theorem dL_looks_128 : decode cL_looks 128 = .ok (.iload_n 3, 1) := by decide +kernel
theorem dL_looks_129 : decode cL_looks 129 = .ok (.ifCond .eq 59, 3) := by decide +kernel
theorem dL_looks_132 : decode cL_looks 132 = .ok (.aload_n 0, 1) := by decide +kernel
theorem dL_looks_133 : decode cL_looks 133 = .ok (.iconst 3, 1) := by decide +kernel
theorem dL_looks_134 : decode cL_looks 134 = .ok (.iconst 0, 1) := by decide +kernel
theorem dL_looks_135 : decode cL_looks 135 = .ok (.invokevirtual 33, 3) := by decide +kernel
theorem dL_looks_138 : decode cL_looks 138 = .ok (.ifCond .lt 50, 3) := by decide +kernel
theorem dL_looks_141 : decode cL_looks 141 = .ok (.aload_n 0, 1) := by decide +kernel
theorem dL_looks_142 : decode cL_looks 142 = .ok (.iconst 3, 1) := by decide +kernel
theorem dL_looks_143 : decode cL_looks 143 = .ok (.iconst 1, 1) := by decide +kernel
theorem dL_looks_144 : decode cL_looks 144 = .ok (.invokevirtual 33, 3) := by decide +kernel
theorem dL_looks_147 : decode cL_looks 147 = .ok (.iconst 3, 1) := by decide +kernel
theorem dL_looks_148 : decode cL_looks 148 = .ok (.aload_n 0, 1) := by decide +kernel
theorem dL_looks_149 : decode cL_looks 149 = .ok (.bipush 13, 2) := by decide +kernel
theorem dL_looks_151 : decode cL_looks 151 = .ok (.invokevirtual 9, 3) := by decide +kernel
theorem dL_looks_154 : decode cL_looks 154 = .ok (.imul, 1) := by decide +kernel
theorem dL_looks_155 : decode cL_looks 155 = .ok (.if_icmp .gt 33, 3) := by decide +kernel
theorem dL_looks_158 : decode cL_looks 158 = .ok (.aload_n 0, 1) := by decide +kernel
theorem dL_looks_159 : decode cL_looks 159 = .ok (.iconst 4, 1) := by decide +kernel
theorem dL_looks_160 : decode cL_looks 160 = .ok (.iconst 2, 1) := by decide +kernel
theorem dL_looks_161 : decode cL_looks 161 = .ok (.invokevirtual 33, 3) := by decide +kernel
theorem dL_looks_164 : decode cL_looks 164 = .ok (.aload_n 0, 1) := by decide +kernel
theorem dL_looks_165 : decode cL_looks 165 = .ok (.iconst 3, 1) := by decide +kernel
theorem dL_looks_166 : decode cL_looks 166 = .ok (.iconst 2, 1) := by decide +kernel
theorem dL_looks_167 : decode cL_looks 167 = .ok (.invokevirtual 33, 3) := by decide +kernel
theorem dL_looks_170 : decode cL_looks 170 = .ok (.if_icmp .lt 18, 3) := by decide +kernel
theorem dL_looks_173 : decode cL_looks 173 = .ok (.aload_n 0, 1) := by decide +kernel
theorem dL_looks_174 : decode cL_looks 174 = .ok (.iconst 3, 1) := by decide +kernel
theorem dL_looks_175 : decode cL_looks 175 = .ok (.iconst 0, 1) := by decide +kernel
theorem dL_looks_176 : decode cL_looks 176 = .ok (.invokevirtual 36, 3) := by decide +kernel
theorem dL_looks_179 : decode cL_looks 179 = .ok (.ldc 39, 2) := by decide +kernel
theorem dL_looks_181 : decode cL_looks 181 = .ok (.if_icmp .ne 7, 3) := by decide +kernel
theorem dL_looks_184 : decode cL_looks 184 = .ok (.iconst 1, 1) := by decide +kernel
theorem dL_looks_185 : decode cL_looks 185 = .ok (.goto 4, 3) := by decide +kernel
theorem dL_looks_188 : decode cL_looks 188 = .ok (.iconst 0, 1) := by decide +kernel
theorem dL_looks_189 : decode cL_looks 189 = .ok (.ireturn, 1) := by decide +kernel
theorem dL_act_0 : decode cL_act 0 = .ok (.aload_n 1, 1) := by decide +kernel
theorem dL_act_1 : decode cL_act 1 = .ok (.iload_n 2, 1) := by decide +kernel
theorem dL_act_2 : decode cL_act 2 = .ok (.iconst 1, 1) := by decide +kernel
theorem dL_act_3 : decode cL_act 3 = .ok (.iadd, 1) := by decide +kernel
theorem dL_act_4 : decode cL_act 4 = .ok (.invokestatic 40, 3) := by decide +kernel
theorem dL_act_7 : decode cL_act 7 = .ok (.istore_n 3, 1) := by decide +kernel
theorem dL_act_8 : decode cL_act 8 = .ok (.aload_n 1, 1) := by decide +kernel
theorem dL_act_9 : decode cL_act 9 = .ok (.iload_n 2, 1) := by decide +kernel
theorem dL_act_10 : decode cL_act 10 = .ok (.iconst 2, 1) := by decide +kernel
theorem dL_act_11 : decode cL_act 11 = .ok (.iadd, 1) := by decide +kernel
theorem dL_act_12 : decode cL_act 12 = .ok (.invokestatic 40, 3) := by decide +kernel
theorem dL_act_15 : decode cL_act 15 = .ok (.istore 4, 2) := by decide +kernel
theorem dL_act_17 : decode cL_act 17 = .ok (.aload_n 1, 1) := by decide +kernel
theorem dL_act_18 : decode cL_act 18 = .ok (.iload_n 2, 1) := by decide +kernel
theorem dL_act_19 : decode cL_act 19 = .ok (.iconst 3, 1) := by decide +kernel
theorem dL_act_20 : decode cL_act 20 = .ok (.iadd, 1) := by decide +kernel
theorem dL_act_21 : decode cL_act 21 = .ok (.invokestatic 40, 3) := by decide +kernel
theorem dL_act_24 : decode cL_act 24 = .ok (.istore 5, 2) := by decide +kernel
theorem dL_act_26 : decode cL_act 26 = .ok (.aload_n 0, 1) := by decide +kernel
theorem dL_act_27 : decode cL_act 27 = .ok (.iconst 0, 1) := by decide +kernel
theorem dL_act_28 : decode cL_act 28 = .ok (.invokevirtual 9, 3) := by decide +kernel
theorem dL_act_31 : decode cL_act 31 = .ok (.istore 6, 2) := by decide +kernel
theorem dL_act_33 : decode cL_act 33 = .ok (.aload_n 1, 1) := by decide +kernel
theorem dL_act_34 : decode cL_act 34 = .ok (.iload_n 2, 1) := by decide +kernel
theorem dL_act_35 : decode cL_act 35 = .ok (.invokestatic 40, 3) := by decide +kernel
theorem dL_act_38 : decode cL_act 38 = .ok (.bipush 18, 2) := by decide +kernel
theorem dL_act_40 : decode cL_act 40 = .ok (.invokestatic 46, 3) := by decide +kernel
theorem dL_act_43 : decode cL_act 43 = .ok (.tableswitch 276 0 14 #[73, 73, 73, 73, 73, 110, 129, 154, 177, 187, 200, 221, 235, 256, 271], 73) := by decide +kernel
theorem dL_act_116 : decode cL_act 116 = .ok (.aload_n 0, 1) := by decide +kernel
theorem dL_act_117 : decode cL_act 117 = .ok (.iload_n 3, 1) := by decide +kernel
theorem dL_act_118 : decode cL_act 118 = .ok (.bipush 6, 2) := by decide +kernel
theorem dL_act_120 : decode cL_act 120 = .ok (.invokestatic 46, 3) := by decide +kernel
theorem dL_act_123 : decode cL_act 123 = .ok (.iconst 1, 1) := by decide +kernel
theorem dL_act_124 : decode cL_act 124 = .ok (.iload 4, 2) := by decide +kernel
theorem dL_act_126 : decode cL_act 126 = .ok (.bipush 90, 2) := by decide +kernel
theorem dL_act_128 : decode cL_act 128 = .ok (.invokestatic 46, 3) := by decide +kernel
theorem dL_act_131 : decode cL_act 131 = .ok (.iadd, 1) := by decide +kernel
theorem dL_act_132 : decode cL_act 132 = .ok (.iconst 1, 1) := by decide +kernel
theorem dL_act_133 : decode cL_act 133 = .ok (.iload 5, 2) := by decide +kernel
theorem dL_act_135 : decode cL_act 135 = .ok (.bipush 100, 2) := by decide +kernel
theorem dL_act_137 : decode cL_act 137 = .ok (.invokestatic 46, 3) := by decide +kernel
theorem dL_act_140 : decode cL_act 140 = .ok (.iadd, 1) := by decide +kernel
theorem dL_act_141 : decode cL_act 141 = .ok (.iload 6, 2) := by decide +kernel
theorem dL_act_143 : decode cL_act 143 = .ok (.iload_n 3, 1) := by decide +kernel
theorem dL_act_144 : decode cL_act 144 = .ok (.iconst 5, 1) := by decide +kernel
theorem dL_act_145 : decode cL_act 145 = .ok (.invokestatic 46, 3) := by decide +kernel
theorem dL_act_148 : decode cL_act 148 = .ok (.iadd, 1) := by decide +kernel
theorem dL_act_149 : decode cL_act 149 = .ok (.invokevirtual 49, 3) := by decide +kernel
theorem dL_act_152 : decode cL_act 152 = .ok (.ireturn, 1) := by decide +kernel
theorem dL_act_153 : decode cL_act 153 = .ok (.aload_n 0, 1) := by decide +kernel
theorem dL_act_154 : decode cL_act 154 = .ok (.iload_n 3, 1) := by decide +kernel
theorem dL_act_155 : decode cL_act 155 = .ok (.bipush 6, 2) := by decide +kernel
theorem dL_act_157 : decode cL_act 157 = .ok (.invokestatic 46, 3) := by decide +kernel
theorem dL_act_160 : decode cL_act 160 = .ok (.iload 4, 2) := by decide +kernel
theorem dL_act_162 : decode cL_act 162 = .ok (.sipush 300, 3) := by decide +kernel
theorem dL_act_165 : decode cL_act 165 = .ok (.invokestatic 46, 3) := by decide +kernel
theorem dL_act_168 : decode cL_act 168 = .ok (.invokevirtual 53, 3) := by decide +kernel
theorem dL_act_171 : decode cL_act 171 = .ok (.ireturn, 1) := by decide +kernel
theorem dL_act_172 : decode cL_act 172 = .ok (.aload_n 0, 1) := by decide +kernel
theorem dL_act_173 : decode cL_act 173 = .ok (.iload_n 3, 1) := by decide +kernel
theorem dL_act_174 : decode cL_act 174 = .ok (.bipush 6, 2) := by decide +kernel
theorem dL_act_176 : decode cL_act 176 = .ok (.invokestatic 46, 3) := by decide +kernel
theorem dL_act_179 : decode cL_act 179 = .ok (.iload 4, 2) := by decide +kernel
theorem dL_act_181 : decode cL_act 181 = .ok (.bipush 6, 2) := by decide +kernel
theorem dL_act_183 : decode cL_act 183 = .ok (.invokestatic 46, 3) := by decide +kernel
theorem dL_act_186 : decode cL_act 186 = .ok (.iload 5, 2) := by decide +kernel
theorem dL_act_188 : decode cL_act 188 = .ok (.bipush 60, 2) := by decide +kernel
theorem dL_act_190 : decode cL_act 190 = .ok (.invokestatic 46, 3) := by decide +kernel
theorem dL_act_193 : decode cL_act 193 = .ok (.invokevirtual 56, 3) := by decide +kernel
theorem dL_act_196 : decode cL_act 196 = .ok (.ireturn, 1) := by decide +kernel
theorem dL_act_197 : decode cL_act 197 = .ok (.aload_n 0, 1) := by decide +kernel
theorem dL_act_198 : decode cL_act 198 = .ok (.iload 6, 2) := by decide +kernel
theorem dL_act_200 : decode cL_act 200 = .ok (.iload_n 3, 1) := by decide +kernel
theorem dL_act_201 : decode cL_act 201 = .ok (.iconst 4, 1) := by decide +kernel
theorem dL_act_202 : decode cL_act 202 = .ok (.invokestatic 46, 3) := by decide +kernel
theorem dL_act_205 : decode cL_act 205 = .ok (.iadd, 1) := by decide +kernel
theorem dL_act_206 : decode cL_act 206 = .ok (.iload 6, 2) := by decide +kernel
theorem dL_act_208 : decode cL_act 208 = .ok (.iload 4, 2) := by decide +kernel
theorem dL_act_210 : decode cL_act 210 = .ok (.bipush 6, 2) := by decide +kernel
theorem dL_act_212 : decode cL_act 212 = .ok (.invokestatic 46, 3) := by decide +kernel
theorem dL_act_215 : decode cL_act 215 = .ok (.iadd, 1) := by decide +kernel
theorem dL_act_216 : decode cL_act 216 = .ok (.invokevirtual 60, 3) := by decide +kernel
theorem dL_act_219 : decode cL_act 219 = .ok (.ireturn, 1) := by decide +kernel
theorem dL_act_220 : decode cL_act 220 = .ok (.aload_n 0, 1) := by decide +kernel
theorem dL_act_221 : decode cL_act 221 = .ok (.iload_n 3, 1) := by decide +kernel
theorem dL_act_222 : decode cL_act 222 = .ok (.iconst 3, 1) := by decide +kernel
theorem dL_act_223 : decode cL_act 223 = .ok (.invokestatic 46, 3) := by decide +kernel
theorem dL_act_226 : decode cL_act 226 = .ok (.invokevirtual 63, 3) := by decide +kernel
theorem dL_act_229 : decode cL_act 229 = .ok (.ireturn, 1) := by decide +kernel
theorem dL_act_230 : decode cL_act 230 = .ok (.aload_n 0, 1) := by decide +kernel
theorem dL_act_231 : decode cL_act 231 = .ok (.iconst 0, 1) := by decide +kernel
theorem dL_act_232 : decode cL_act 232 = .ok (.iload 4, 2) := by decide +kernel
theorem dL_act_234 : decode cL_act 234 = .ok (.bipush 21, 2) := by decide +kernel
theorem dL_act_236 : decode cL_act 236 = .ok (.invokestatic 46, 3) := by decide +kernel
theorem dL_act_239 : decode cL_act 239 = .ok (.invokevirtual 66, 3) := by decide +kernel
theorem dL_act_242 : decode cL_act 242 = .ok (.ireturn, 1) := by decide +kernel
theorem dL_act_243 : decode cL_act 243 = .ok (.aload_n 0, 1) := by decide +kernel
theorem dL_act_244 : decode cL_act 244 = .ok (.iconst 1, 1) := by decide +kernel
theorem dL_act_245 : decode cL_act 245 = .ok (.iload_n 3, 1) := by decide +kernel
theorem dL_act_246 : decode cL_act 246 = .ok (.iconst 2, 1) := by decide +kernel
theorem dL_act_247 : decode cL_act 247 = .ok (.invokestatic 46, 3) := by decide +kernel
theorem dL_act_250 : decode cL_act 250 = .ok (.iadd, 1) := by decide +kernel
theorem dL_act_251 : decode cL_act 251 = .ok (.iconst 1, 1) := by decide +kernel
theorem dL_act_252 : decode cL_act 252 = .ok (.iload 4, 2) := by decide +kernel
theorem dL_act_254 : decode cL_act 254 = .ok (.bipush 30, 2) := by decide +kernel
theorem dL_act_256 : decode cL_act 256 = .ok (.invokestatic 46, 3) := by decide +kernel
theorem dL_act_259 : decode cL_act 259 = .ok (.iadd, 1) := by decide +kernel
theorem dL_act_260 : decode cL_act 260 = .ok (.invokevirtual 66, 3) := by decide +kernel
theorem dL_act_263 : decode cL_act 263 = .ok (.ireturn, 1) := by decide +kernel
theorem dL_act_264 : decode cL_act 264 = .ok (.aload_n 0, 1) := by decide +kernel
theorem dL_act_265 : decode cL_act 265 = .ok (.iconst 3, 1) := by decide +kernel
theorem dL_act_266 : decode cL_act 266 = .ok (.iload 4, 2) := by decide +kernel
theorem dL_act_268 : decode cL_act 268 = .ok (.sipush 200, 3) := by decide +kernel
theorem dL_act_271 : decode cL_act 271 = .ok (.invokestatic 46, 3) := by decide +kernel
theorem dL_act_274 : decode cL_act 274 = .ok (.invokevirtual 66, 3) := by decide +kernel
theorem dL_act_277 : decode cL_act 277 = .ok (.ireturn, 1) := by decide +kernel
theorem dL_act_278 : decode cL_act 278 = .ok (.aload_n 0, 1) := by decide +kernel
theorem dL_act_279 : decode cL_act 279 = .ok (.iconst 4, 1) := by decide +kernel
theorem dL_act_280 : decode cL_act 280 = .ok (.iconst 2, 1) := by decide +kernel
theorem dL_act_281 : decode cL_act 281 = .ok (.iload_n 3, 1) := by decide +kernel
theorem dL_act_282 : decode cL_act 282 = .ok (.iconst 2, 1) := by decide +kernel
theorem dL_act_283 : decode cL_act 283 = .ok (.invokestatic 46, 3) := by decide +kernel
theorem dL_act_286 : decode cL_act 286 = .ok (.imul, 1) := by decide +kernel
theorem dL_act_287 : decode cL_act 287 = .ok (.iadd, 1) := by decide +kernel
theorem dL_act_288 : decode cL_act 288 = .ok (.iload 4, 2) := by decide +kernel
theorem dL_act_290 : decode cL_act 290 = .ok (.bipush 40, 2) := by decide +kernel
theorem dL_act_292 : decode cL_act 292 = .ok (.invokestatic 46, 3) := by decide +kernel
theorem dL_act_295 : decode cL_act 295 = .ok (.invokevirtual 66, 3) := by decide +kernel
theorem dL_act_298 : decode cL_act 298 = .ok (.ireturn, 1) := by decide +kernel
theorem dL_act_299 : decode cL_act 299 = .ok (.aload_n 0, 1) := by decide +kernel
theorem dL_act_300 : decode cL_act 300 = .ok (.iconst 5, 1) := by decide +kernel
theorem dL_act_301 : decode cL_act 301 = .ok (.iconst 1, 1) := by decide +kernel
theorem dL_act_302 : decode cL_act 302 = .ok (.iload 4, 2) := by decide +kernel
theorem dL_act_304 : decode cL_act 304 = .ok (.bipush 8, 2) := by decide +kernel
theorem dL_act_306 : decode cL_act 306 = .ok (.invokestatic 46, 3) := by decide +kernel
theorem dL_act_309 : decode cL_act 309 = .ok (.iadd, 1) := by decide +kernel
theorem dL_act_310 : decode cL_act 310 = .ok (.invokevirtual 66, 3) := by decide +kernel
theorem dL_act_313 : decode cL_act 313 = .ok (.ireturn, 1) := by decide +kernel
theorem dL_act_314 : decode cL_act 314 = .ok (.aload_n 0, 1) := by decide +kernel
theorem dL_act_315 : decode cL_act 315 = .ok (.invokevirtual 69, 3) := by decide +kernel
theorem dL_act_318 : decode cL_act 318 = .ok (.ireturn, 1) := by decide +kernel
theorem dL_act_319 : decode cL_act 319 = .ok (.aload_n 0, 1) := by decide +kernel
theorem dL_act_320 : decode cL_act 320 = .ok (.iconst 1, 1) := by decide +kernel
theorem dL_act_321 : decode cL_act 321 = .ok (.iload 4, 2) := by decide +kernel
theorem dL_act_323 : decode cL_act 323 = .ok (.iconst 4, 1) := by decide +kernel
theorem dL_act_324 : decode cL_act 324 = .ok (.invokestatic 46, 3) := by decide +kernel
theorem dL_act_327 : decode cL_act 327 = .ok (.iadd, 1) := by decide +kernel
theorem dL_act_328 : decode cL_act 328 = .ok (.invokevirtual 72, 3) := by decide +kernel
theorem dL_act_331 : decode cL_act 331 = .ok (.ireturn, 1) := by decide +kernel
theorem dL_law_0 : decode cL_law 0 = .ok (.new 10, 3) := by decide +kernel
theorem dL_law_3 : decode cL_law 3 = .ok (.dup, 1) := by decide +kernel
theorem dL_law_4 : decode cL_law 4 = .ok (.invokespecial 75, 3) := by decide +kernel
theorem dL_law_7 : decode cL_law 7 = .ok (.astore_n 1, 1) := by decide +kernel
theorem dL_law_8 : decode cL_law 8 = .ok (.iconst 1, 1) := by decide +kernel
theorem dL_law_9 : decode cL_law 9 = .ok (.istore_n 2, 1) := by decide +kernel
theorem dL_law_10 : decode cL_law 10 = .ok (.aload_n 0, 1) := by decide +kernel
theorem dL_law_11 : decode cL_law 11 = .ok (.arraylength, 1) := by decide +kernel
theorem dL_law_12 : decode cL_law 12 = .ok (.iconst 4, 1) := by decide +kernel
theorem dL_law_13 : decode cL_law 13 = .ok (.idiv, 1) := by decide +kernel
theorem dL_law_14 : decode cL_law 14 = .ok (.bipush 40, 2) := by decide +kernel
theorem dL_law_16 : decode cL_law 16 = .ok (.if_icmp .le 8, 3) := by decide +kernel
theorem dL_law_19 : decode cL_law 19 = .ok (.bipush 40, 2) := by decide +kernel
theorem dL_law_21 : decode cL_law 21 = .ok (.goto 7, 3) := by decide +kernel
theorem dL_law_24 : decode cL_law 24 = .ok (.aload_n 0, 1) := by decide +kernel
theorem dL_law_25 : decode cL_law 25 = .ok (.arraylength, 1) := by decide +kernel
theorem dL_law_26 : decode cL_law 26 = .ok (.iconst 4, 1) := by decide +kernel
theorem dL_law_27 : decode cL_law 27 = .ok (.idiv, 1) := by decide +kernel
theorem dL_law_28 : decode cL_law 28 = .ok (.istore_n 3, 1) := by decide +kernel
theorem dL_law_29 : decode cL_law 29 = .ok (.iconst 0, 1) := by decide +kernel
theorem dL_law_30 : decode cL_law 30 = .ok (.istore 4, 2) := by decide +kernel
theorem dL_law_32 : decode cL_law 32 = .ok (.iload 4, 2) := by decide +kernel
theorem dL_law_34 : decode cL_law 34 = .ok (.iload_n 3, 1) := by decide +kernel
theorem dL_law_35 : decode cL_law 35 = .ok (.if_icmp .ge 112, 3) := by decide +kernel
theorem dL_law_38 : decode cL_law 38 = .ok (.iload_n 2, 1) := by decide +kernel
theorem dL_law_39 : decode cL_law 39 = .ok (.ifCond .eq 108, 3) := by decide +kernel
theorem dL_law_42 : decode cL_law 42 = .ok (.aload_n 1, 1) := by decide +kernel
theorem dL_law_43 : decode cL_law 43 = .ok (.bipush 19, 2) := by decide +kernel
theorem dL_law_45 : decode cL_law 45 = .ok (.invokevirtual 9, 3) := by decide +kernel
theorem dL_law_48 : decode cL_law 48 = .ok (.istore 5, 2) := by decide +kernel
theorem dL_law_50 : decode cL_law 50 = .ok (.aload_n 1, 1) := by decide +kernel
theorem dL_law_51 : decode cL_law 51 = .ok (.iconst 1, 1) := by decide +kernel
theorem dL_law_52 : decode cL_law 52 = .ok (.invokevirtual 9, 3) := by decide +kernel
theorem dL_law_55 : decode cL_law 55 = .ok (.istore 6, 2) := by decide +kernel
theorem dL_law_57 : decode cL_law 57 = .ok (.aload_n 1, 1) := by decide +kernel

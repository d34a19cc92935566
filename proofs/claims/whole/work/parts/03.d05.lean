theorem dX8_mayLend_8 : decode cX8_mayLend 8 = .ok (.invokestatic 103, 3) := by decide +kernel
theorem dX8_mayLend_11 : decode cX8_mayLend 11 = .ok (.ifCond .ne 5, 3) := by decide +kernel
theorem dX8_mayLend_14 : decode cX8_mayLend 14 = .ok (.iconst (-1), 1) := by decide +kernel
theorem dX8_mayLend_15 : decode cX8_mayLend 15 = .ok (.ireturn, 1) := by decide +kernel
theorem dX8_mayLend_16 : decode cX8_mayLend 16 = .ok (.iload_n 3, 1) := by decide +kernel
theorem dX8_mayLend_17 : decode cX8_mayLend 17 = .ok (.iconst 1, 1) := by decide +kernel
theorem dX8_mayLend_18 : decode cX8_mayLend 18 = .ok (.if_icmp .lt 8, 3) := by decide +kernel
theorem dX8_mayLend_21 : decode cX8_mayLend 21 = .ok (.iload_n 1, 1) := by decide +kernel
theorem dX8_mayLend_22 : decode cX8_mayLend 22 = .ok (.iload_n 2, 1) := by decide +kernel
theorem dX8_mayLend_23 : decode cX8_mayLend 23 = .ok (.if_icmp .ne 6, 3) := by decide +kernel
theorem dX8_mayLend_26 : decode cX8_mayLend 26 = .ok (.bipush (-2), 2) := by decide +kernel
theorem dX8_mayLend_28 : decode cX8_mayLend 28 = .ok (.ireturn, 1) := by decide +kernel
theorem dX8_mayLend_29 : decode cX8_mayLend 29 = .ok (.iload_n 3, 1) := by decide +kernel
theorem dX8_mayLend_30 : decode cX8_mayLend 30 = .ok (.aload_n 0, 1) := by decide +kernel
theorem dX8_mayLend_31 : decode cX8_mayLend 31 = .ok (.getfield 7, 3) := by decide +kernel
theorem dX8_mayLend_34 : decode cX8_mayLend 34 = .ok (.bipush 10, 2) := by decide +kernel
theorem dX8_mayLend_36 : decode cX8_mayLend 36 = .ok (.iload_n 1, 1) := by decide +kernel
theorem dX8_mayLend_37 : decode cX8_mayLend 37 = .ok (.iadd, 1) := by decide +kernel
theorem dX8_mayLend_38 : decode cX8_mayLend 38 = .ok (.iaload, 1) := by decide +kernel
theorem dX8_mayLend_39 : decode cX8_mayLend 39 = .ok (.if_icmp .gt 20, 3) := by decide +kernel
theorem dX8_mayLend_42 : decode cX8_mayLend 42 = .ok (.iload_n 3, 1) := by decide +kernel
theorem dX8_mayLend_43 : decode cX8_mayLend 43 = .ok (.sipush 9999, 3) := by decide +kernel
theorem dX8_mayLend_46 : decode cX8_mayLend 46 = .ok (.aload_n 0, 1) := by decide +kernel
theorem dX8_mayLend_47 : decode cX8_mayLend 47 = .ok (.getfield 7, 3) := by decide +kernel
theorem dX8_mayLend_50 : decode cX8_mayLend 50 = .ok (.bipush 10, 2) := by decide +kernel
theorem dX8_mayLend_52 : decode cX8_mayLend 52 = .ok (.iload_n 2, 1) := by decide +kernel
theorem dX8_mayLend_53 : decode cX8_mayLend 53 = .ok (.iadd, 1) := by decide +kernel
theorem dX8_mayLend_54 : decode cX8_mayLend 54 = .ok (.iaload, 1) := by decide +kernel
theorem dX8_mayLend_55 : decode cX8_mayLend 55 = .ok (.isub, 1) := by decide +kernel
theorem dX8_mayLend_56 : decode cX8_mayLend 56 = .ok (.if_icmp .le 8, 3) := by decide +kernel
theorem dX8_mayLend_59 : decode cX8_mayLend 59 = .ok (.bipush (-5), 2) := by decide +kernel
theorem dX8_mayLend_61 : decode cX8_mayLend 61 = .ok (.goto 4, 3) := by decide +kernel
theorem dX8_mayLend_64 : decode cX8_mayLend 64 = .ok (.iconst 0, 1) := by decide +kernel
theorem dX8_mayLend_65 : decode cX8_mayLend 65 = .ok (.ireturn, 1) := by decide +kernel
theorem dX8_lends_0 : decode cX8_lends 0 = .ok (.aload_n 0, 1) := by decide +kernel
theorem dX8_lends_1 : decode cX8_lends 1 = .ok (.getfield 7, 3) := by decide +kernel
theorem dX8_lends_4 : decode cX8_lends 4 = .ok (.bipush 10, 2) := by decide +kernel
theorem dX8_lends_6 : decode cX8_lends 6 = .ok (.iload_n 1, 1) := by decide +kernel
theorem dX8_lends_7 : decode cX8_lends 7 = .ok (.iadd, 1) := by decide +kernel
theorem dX8_lends_8 : decode cX8_lends 8 = .ok (.dup2, 1) := by decide +kernel
theorem dX8_lends_9 : decode cX8_lends 9 = .ok (.iaload, 1) := by decide +kernel
theorem dX8_lends_10 : decode cX8_lends 10 = .ok (.iload_n 3, 1) := by decide +kernel
theorem dX8_lends_11 : decode cX8_lends 11 = .ok (.isub, 1) := by decide +kernel
theorem dX8_lends_12 : decode cX8_lends 12 = .ok (.iastore, 1) := by decide +kernel
theorem dX8_lends_13 : decode cX8_lends 13 = .ok (.aload_n 0, 1) := by decide +kernel
theorem dX8_lends_14 : decode cX8_lends 14 = .ok (.getfield 7, 3) := by decide +kernel
theorem dX8_lends_17 : decode cX8_lends 17 = .ok (.bipush 10, 2) := by decide +kernel
theorem dX8_lends_19 : decode cX8_lends 19 = .ok (.iload_n 2, 1) := by decide +kernel
theorem dX8_lends_20 : decode cX8_lends 20 = .ok (.iadd, 1) := by decide +kernel
theorem dX8_lends_21 : decode cX8_lends 21 = .ok (.dup2, 1) := by decide +kernel
theorem dX8_lends_22 : decode cX8_lends 22 = .ok (.iaload, 1) := by decide +kernel
theorem dX8_lends_23 : decode cX8_lends 23 = .ok (.iload_n 3, 1) := by decide +kernel
theorem dX8_lends_24 : decode cX8_lends 24 = .ok (.iadd, 1) := by decide +kernel
theorem dX8_lends_25 : decode cX8_lends 25 = .ok (.iastore, 1) := by decide +kernel
theorem dX8_lends_26 : decode cX8_lends 26 = .ok (.aload_n 0, 1) := by decide +kernel
theorem dX8_lends_27 : decode cX8_lends 27 = .ok (.getfield 7, 3) := by decide +kernel
theorem dX8_lends_30 : decode cX8_lends 30 = .ok (.bipush 10, 2) := by decide +kernel
theorem dX8_lends_32 : decode cX8_lends 32 = .ok (.iload_n 1, 1) := by decide +kernel
theorem dX8_lends_33 : decode cX8_lends 33 = .ok (.iadd, 1) := by decide +kernel
theorem dX8_lends_34 : decode cX8_lends 34 = .ok (.iaload, 1) := by decide +kernel
theorem dX8_lends_35 : decode cX8_lends 35 = .ok (.ireturn, 1) := by decide +kernel
theorem dX8_lend_0 : decode cX8_lend 0 = .ok (.aload_n 0, 1) := by decide +kernel
theorem dX8_lend_1 : decode cX8_lend 1 = .ok (.iload_n 1, 1) := by decide +kernel
theorem dX8_lend_2 : decode cX8_lend 2 = .ok (.iload_n 2, 1) := by decide +kernel
theorem dX8_lend_3 : decode cX8_lend 3 = .ok (.iload_n 3, 1) := by decide +kernel
theorem dX8_lend_4 : decode cX8_lend 4 = .ok (.invokevirtual 110, 3) := by decide +kernel
theorem dX8_lend_7 : decode cX8_lend 7 = .ok (.istore 4, 2) := by decide +kernel
theorem dX8_lend_9 : decode cX8_lend 9 = .ok (.iload 4, 2) := by decide +kernel
theorem dX8_lend_11 : decode cX8_lend 11 = .ok (.ifCond .eq 6, 3) := by decide +kernel
theorem dX8_lend_14 : decode cX8_lend 14 = .ok (.iload 4, 2) := by decide +kernel
theorem dX8_lend_16 : decode cX8_lend 16 = .ok (.ireturn, 1) := by decide +kernel
theorem dX8_lend_17 : decode cX8_lend 17 = .ok (.aload_n 0, 1) := by decide +kernel
theorem dX8_lend_18 : decode cX8_lend 18 = .ok (.invokevirtual 44, 3) := by decide +kernel
theorem dX8_lend_21 : decode cX8_lend 21 = .ok (.aload_n 0, 1) := by decide +kernel
theorem dX8_lend_22 : decode cX8_lend 22 = .ok (.iload_n 1, 1) := by decide +kernel
theorem dX8_lend_23 : decode cX8_lend 23 = .ok (.iload_n 2, 1) := by decide +kernel
theorem dX8_lend_24 : decode cX8_lend 24 = .ok (.iload_n 3, 1) := by decide +kernel
theorem dX8_lend_25 : decode cX8_lend 25 = .ok (.invokevirtual 114, 3) := by decide +kernel
theorem dX8_lend_28 : decode cX8_lend 28 = .ok (.ireturn, 1) := by decide +kernel
theorem dX8_mayCome_0 : decode cX8_mayCome 0 = .ok (.iload_n 1, 1) := by decide +kernel
theorem dX8_mayCome_1 : decode cX8_mayCome 1 = .ok (.invokestatic 103, 3) := by decide +kernel
theorem dX8_mayCome_4 : decode cX8_mayCome 4 = .ok (.ifCond .ne 5, 3) := by decide +kernel
theorem dX8_mayCome_7 : decode cX8_mayCome 7 = .ok (.iconst (-1), 1) := by decide +kernel
theorem dX8_mayCome_8 : decode cX8_mayCome 8 = .ok (.ireturn, 1) := by decide +kernel
theorem dX8_mayCome_9 : decode cX8_mayCome 9 = .ok (.iload_n 2, 1) := by decide +kernel
theorem dX8_mayCome_10 : decode cX8_mayCome 10 = .ok (.iconst 1, 1) := by decide +kernel
theorem dX8_mayCome_11 : decode cX8_mayCome 11 = .ok (.sipush 300, 3) := by decide +kernel
theorem dX8_mayCome_14 : decode cX8_mayCome 14 = .ok (.invokestatic 32, 3) := by decide +kernel
theorem dX8_mayCome_17 : decode cX8_mayCome 17 = .ok (.ifCond .eq 30, 3) := by decide +kernel
theorem dX8_mayCome_20 : decode cX8_mayCome 20 = .ok (.iload_n 3, 1) := by decide +kernel
theorem dX8_mayCome_21 : decode cX8_mayCome 21 = .ok (.iconst 1, 1) := by decide +kernel
theorem dX8_mayCome_22 : decode cX8_mayCome 22 = .ok (.bipush 100, 2) := by decide +kernel
theorem dX8_mayCome_24 : decode cX8_mayCome 24 = .ok (.invokestatic 32, 3) := by decide +kernel
theorem dX8_mayCome_27 : decode cX8_mayCome 27 = .ok (.ifCond .eq 20, 3) := by decide +kernel
theorem dX8_mayCome_30 : decode cX8_mayCome 30 = .ok (.iload 4, 2) := by decide +kernel
theorem dX8_mayCome_32 : decode cX8_mayCome 32 = .ok (.aload_n 0, 1) := by decide +kernel
theorem dX8_mayCome_33 : decode cX8_mayCome 33 = .ok (.getfield 7, 3) := by decide +kernel
theorem dX8_mayCome_36 : decode cX8_mayCome 36 = .ok (.iconst 0, 1) := by decide +kernel
theorem dX8_mayCome_37 : decode cX8_mayCome 37 = .ok (.iaload, 1) := by decide +kernel
theorem dX8_mayCome_38 : decode cX8_mayCome 38 = .ok (.sipush 999, 3) := by decide +kernel
theorem dX8_mayCome_41 : decode cX8_mayCome 41 = .ok (.invokestatic 32, 3) := by decide +kernel
theorem dX8_mayCome_44 : decode cX8_mayCome 44 = .ok (.ifCond .ne 6, 3) := by decide +kernel
theorem dX8_mayCome_47 : decode cX8_mayCome 47 = .ok (.bipush (-2), 2) := by decide +kernel
theorem dX8_mayCome_49 : decode cX8_mayCome 49 = .ok (.ireturn, 1) := by decide +kernel
theorem dX8_mayCome_50 : decode cX8_mayCome 50 = .ok (.aload_n 0, 1) := by decide +kernel
theorem dX8_mayCome_51 : decode cX8_mayCome 51 = .ok (.getfield 7, 3) := by decide +kernel
theorem dX8_mayCome_54 : decode cX8_mayCome 54 = .ok (.iconst 1, 1) := by decide +kernel
theorem dX8_mayCome_55 : decode cX8_mayCome 55 = .ok (.iaload, 1) := by decide +kernel
theorem dX8_mayCome_56 : decode cX8_mayCome 56 = .ok (.bipush 30, 2) := by decide +kernel
theorem dX8_mayCome_58 : decode cX8_mayCome 58 = .ok (.if_icmp .ne 8, 3) := by decide +kernel
theorem dX8_mayCome_61 : decode cX8_mayCome 61 = .ok (.bipush (-4), 2) := by decide +kernel
theorem dX8_mayCome_63 : decode cX8_mayCome 63 = .ok (.goto 4, 3) := by decide +kernel
theorem dX8_mayCome_66 : decode cX8_mayCome 66 = .ok (.iconst 0, 1) := by decide +kernel
theorem dX8_mayCome_67 : decode cX8_mayCome 67 = .ok (.ireturn, 1) := by decide +kernel
theorem dX8_comes_0 : decode cX8_comes 0 = .ok (.bipush 56, 2) := by decide +kernel
theorem dX8_comes_2 : decode cX8_comes 2 = .ok (.bipush 8, 2) := by decide +kernel
theorem dX8_comes_4 : decode cX8_comes 4 = .ok (.aload_n 0, 1) := by decide +kernel
theorem dX8_comes_5 : decode cX8_comes 5 = .ok (.getfield 7, 3) := by decide +kernel
theorem dX8_comes_8 : decode cX8_comes 8 = .ok (.iconst 1, 1) := by decide +kernel
theorem dX8_comes_9 : decode cX8_comes 9 = .ok (.iaload, 1) := by decide +kernel
theorem dX8_comes_10 : decode cX8_comes 10 = .ok (.imul, 1) := by decide +kernel
theorem dX8_comes_11 : decode cX8_comes 11 = .ok (.iadd, 1) := by decide +kernel
theorem dX8_comes_12 : decode cX8_comes 12 = .ok (.istore 5, 2) := by decide +kernel
theorem dX8_comes_14 : decode cX8_comes 14 = .ok (.iconst 0, 1) := by decide +kernel
theorem dX8_comes_15 : decode cX8_comes 15 = .ok (.istore 6, 2) := by decide +kernel
theorem dX8_comes_17 : decode cX8_comes 17 = .ok (.iload 6, 2) := by decide +kernel
theorem dX8_comes_19 : decode cX8_comes 19 = .ok (.bipush 8, 2) := by decide +kernel
theorem dX8_comes_21 : decode cX8_comes 21 = .ok (.if_icmp .ge 20, 3) := by decide +kernel
theorem dX8_comes_24 : decode cX8_comes 24 = .ok (.aload_n 0, 1) := by decide +kernel
theorem dX8_comes_25 : decode cX8_comes 25 = .ok (.getfield 7, 3) := by decide +kernel
theorem dX8_comes_28 : decode cX8_comes 28 = .ok (.iload 5, 2) := by decide +kernel
theorem dX8_comes_30 : decode cX8_comes 30 = .ok (.iload 6, 2) := by decide +kernel
theorem dX8_comes_32 : decode cX8_comes 32 = .ok (.iadd, 1) := by decide +kernel
theorem dX8_comes_33 : decode cX8_comes 33 = .ok (.iconst 0, 1) := by decide +kernel
theorem dX8_comes_34 : decode cX8_comes 34 = .ok (.iastore, 1) := by decide +kernel
theorem dX8_comes_35 : decode cX8_comes 35 = .ok (.iinc 6 1, 3) := by decide +kernel
theorem dX8_comes_38 : decode cX8_comes 38 = .ok (.goto (-21), 3) := by decide +kernel
theorem dX8_comes_41 : decode cX8_comes 41 = .ok (.aload_n 0, 1) := by decide +kernel
theorem dX8_comes_42 : decode cX8_comes 42 = .ok (.getfield 7, 3) := by decide +kernel
theorem dX8_comes_45 : decode cX8_comes 45 = .ok (.iload 5, 2) := by decide +kernel
theorem dX8_comes_47 : decode cX8_comes 47 = .ok (.iconst 0, 1) := by decide +kernel
theorem dX8_comes_48 : decode cX8_comes 48 = .ok (.iadd, 1) := by decide +kernel
theorem dX8_comes_49 : decode cX8_comes 49 = .ok (.iload_n 1, 1) := by decide +kernel
theorem dX8_comes_50 : decode cX8_comes 50 = .ok (.iastore, 1) := by decide +kernel
theorem dX8_comes_51 : decode cX8_comes 51 = .ok (.aload_n 0, 1) := by decide +kernel
theorem dX8_comes_52 : decode cX8_comes 52 = .ok (.getfield 7, 3) := by decide +kernel
theorem dX8_comes_55 : decode cX8_comes 55 = .ok (.iload 5, 2) := by decide +kernel
theorem dX8_comes_57 : decode cX8_comes 57 = .ok (.iconst 1, 1) := by decide +kernel
theorem dX8_comes_58 : decode cX8_comes 58 = .ok (.iadd, 1) := by decide +kernel
theorem dX8_comes_59 : decode cX8_comes 59 = .ok (.iload_n 2, 1) := by decide +kernel
theorem dX8_comes_60 : decode cX8_comes 60 = .ok (.iastore, 1) := by decide +kernel
theorem dX8_comes_61 : decode cX8_comes 61 = .ok (.aload_n 0, 1) := by decide +kernel
theorem dX8_comes_62 : decode cX8_comes 62 = .ok (.getfield 7, 3) := by decide +kernel
theorem dX8_comes_65 : decode cX8_comes 65 = .ok (.iload 5, 2) := by decide +kernel
theorem dX8_comes_67 : decode cX8_comes 67 = .ok (.iconst 2, 1) := by decide +kernel
theorem dX8_comes_68 : decode cX8_comes 68 = .ok (.iadd, 1) := by decide +kernel
theorem dX8_comes_69 : decode cX8_comes 69 = .ok (.iload_n 3, 1) := by decide +kernel
theorem dX8_comes_70 : decode cX8_comes 70 = .ok (.iastore, 1) := by decide +kernel
theorem dX8_comes_71 : decode cX8_comes 71 = .ok (.aload_n 0, 1) := by decide +kernel
theorem dX8_comes_72 : decode cX8_comes 72 = .ok (.getfield 7, 3) := by decide +kernel
theorem dX8_comes_75 : decode cX8_comes 75 = .ok (.iload 5, 2) := by decide +kernel
theorem dX8_comes_77 : decode cX8_comes 77 = .ok (.iconst 3, 1) := by decide +kernel
theorem dX8_comes_78 : decode cX8_comes 78 = .ok (.iadd, 1) := by decide +kernel
theorem dX8_comes_79 : decode cX8_comes 79 = .ok (.iload 4, 2) := by decide +kernel
theorem dX8_comes_81 : decode cX8_comes 81 = .ok (.iastore, 1) := by decide +kernel
theorem dX8_comes_82 : decode cX8_comes 82 = .ok (.aload_n 0, 1) := by decide +kernel
theorem dX8_comes_83 : decode cX8_comes 83 = .ok (.getfield 7, 3) := by decide +kernel
theorem dX8_comes_86 : decode cX8_comes 86 = .ok (.iload 5, 2) := by decide +kernel
theorem dX8_comes_88 : decode cX8_comes 88 = .ok (.iconst 4, 1) := by decide +kernel
theorem dX8_comes_89 : decode cX8_comes 89 = .ok (.iadd, 1) := by decide +kernel
theorem dX8_comes_90 : decode cX8_comes 90 = .ok (.iload_n 2, 1) := by decide +kernel
theorem dX8_comes_91 : decode cX8_comes 91 = .ok (.iastore, 1) := by decide +kernel
theorem dX8_comes_92 : decode cX8_comes 92 = .ok (.aload_n 0, 1) := by decide +kernel
theorem dX8_comes_93 : decode cX8_comes 93 = .ok (.getfield 7, 3) := by decide +kernel
theorem dX8_comes_96 : decode cX8_comes 96 = .ok (.iconst 1, 1) := by decide +kernel
theorem dX8_comes_97 : decode cX8_comes 97 = .ok (.dup2, 1) := by decide +kernel
theorem dX8_comes_98 : decode cX8_comes 98 = .ok (.iaload, 1) := by decide +kernel
theorem dX8_comes_99 : decode cX8_comes 99 = .ok (.iconst 1, 1) := by decide +kernel
theorem dX8_comes_100 : decode cX8_comes 100 = .ok (.iadd, 1) := by decide +kernel
theorem dX8_comes_101 : decode cX8_comes 101 = .ok (.iastore, 1) := by decide +kernel
theorem dX8_comes_102 : decode cX8_comes 102 = .ok (.aload_n 0, 1) := by decide +kernel
theorem dX8_comes_103 : decode cX8_comes 103 = .ok (.getfield 7, 3) := by decide +kernel
theorem dX8_comes_106 : decode cX8_comes 106 = .ok (.iconst 1, 1) := by decide +kernel
theorem dX8_comes_107 : decode cX8_comes 107 = .ok (.iaload, 1) := by decide +kernel
theorem dX8_comes_108 : decode cX8_comes 108 = .ok (.iconst 1, 1) := by decide +kernel
theorem dX8_comes_109 : decode cX8_comes 109 = .ok (.isub, 1) := by decide +kernel
theorem dX8_comes_110 : decode cX8_comes 110 = .ok (.ireturn, 1) := by decide +kernel
theorem dX8_field_0 : decode cX8_field 0 = .ok (.aload_n 0, 1) := by decide +kernel
theorem dX8_field_1 : decode cX8_field 1 = .ok (.iload_n 1, 1) := by decide +kernel
theorem dX8_field_2 : decode cX8_field 2 = .ok (.iload_n 2, 1) := by decide +kernel
theorem dX8_field_3 : decode cX8_field 3 = .ok (.iload_n 3, 1) := by decide +kernel
theorem dX8_field_4 : decode cX8_field 4 = .ok (.iload 4, 2) := by decide +kernel
theorem dX8_field_6 : decode cX8_field 6 = .ok (.invokevirtual 117, 3) := by decide +kernel
theorem dX8_field_9 : decode cX8_field 9 = .ok (.istore 5, 2) := by decide +kernel
theorem dX8_field_11 : decode cX8_field 11 = .ok (.iload 5, 2) := by decide +kernel
theorem dX8_field_13 : decode cX8_field 13 = .ok (.ifCond .eq 6, 3) := by decide +kernel
theorem dX8_field_16 : decode cX8_field 16 = .ok (.iload 5, 2) := by decide +kernel
theorem dX8_field_18 : decode cX8_field 18 = .ok (.ireturn, 1) := by decide +kernel
theorem dX8_field_19 : decode cX8_field 19 = .ok (.aload_n 0, 1) := by decide +kernel
theorem dX8_field_20 : decode cX8_field 20 = .ok (.invokevirtual 44, 3) := by decide +kernel
theorem dX8_field_23 : decode cX8_field 23 = .ok (.aload_n 0, 1) := by decide +kernel
theorem dX8_field_24 : decode cX8_field 24 = .ok (.iload_n 1, 1) := by decide +kernel
theorem dX8_field_25 : decode cX8_field 25 = .ok (.iload_n 2, 1) := by decide +kernel
theorem dX8_field_26 : decode cX8_field 26 = .ok (.iload_n 3, 1) := by decide +kernel
theorem dX8_field_27 : decode cX8_field 27 = .ok (.iload 4, 2) := by decide +kernel
theorem dX8_field_29 : decode cX8_field 29 = .ok (.invokevirtual 121, 3) := by decide +kernel
theorem dX8_field_32 : decode cX8_field 32 = .ok (.ireturn, 1) := by decide +kernel
theorem dX8_mayStop_0 : decode cX8_mayStop 0 = .ok (.iload_n 1, 1) := by decide +kernel
theorem dX8_mayStop_1 : decode cX8_mayStop 1 = .ok (.invokestatic 124, 3) := by decide +kernel
theorem dX8_mayStop_4 : decode cX8_mayStop 4 = .ok (.ifCond .eq 14, 3) := by decide +kernel
theorem dX8_mayStop_7 : decode cX8_mayStop 7 = .ok (.iload_n 2, 1) := by decide +kernel
theorem dX8_mayStop_8 : decode cX8_mayStop 8 = .ok (.iload_n 1, 1) := by decide +kernel
theorem dX8_mayStop_9 : decode cX8_mayStop 9 = .ok (.sipush 999, 3) := by decide +kernel
theorem dX8_mayStop_12 : decode cX8_mayStop 12 = .ok (.invokestatic 32, 3) := by decide +kernel
theorem dX8_mayStop_15 : decode cX8_mayStop 15 = .ok (.ifCond .ne 8, 3) := by decide +kernel
theorem dX8_mayStop_18 : decode cX8_mayStop 18 = .ok (.bipush (-2), 2) := by decide +kernel
theorem dX8_mayStop_20 : decode cX8_mayStop 20 = .ok (.goto 19, 3) := by decide +kernel
theorem dX8_mayStop_23 : decode cX8_mayStop 23 = .ok (.aload_n 0, 1) := by decide +kernel
theorem dX8_mayStop_24 : decode cX8_mayStop 24 = .ok (.getfield 7, 3) := by decide +kernel
theorem dX8_mayStop_27 : decode cX8_mayStop 27 = .ok (.iconst 2, 1) := by decide +kernel
theorem dX8_mayStop_28 : decode cX8_mayStop 28 = .ok (.iaload, 1) := by decide +kernel
theorem dX8_mayStop_29 : decode cX8_mayStop 29 = .ok (.iconst 5, 1) := by decide +kernel
theorem dX8_mayStop_30 : decode cX8_mayStop 30 = .ok (.if_icmp .ne 8, 3) := by decide +kernel
theorem dX8_mayStop_33 : decode cX8_mayStop 33 = .ok (.bipush (-4), 2) := by decide +kernel
theorem dX8_mayStop_35 : decode cX8_mayStop 35 = .ok (.goto 4, 3) := by decide +kernel
theorem dX8_mayStop_38 : decode cX8_mayStop 38 = .ok (.iconst 0, 1) := by decide +kernel
theorem dX8_mayStop_39 : decode cX8_mayStop 39 = .ok (.ireturn, 1) := by decide +kernel
theorem dX8_stops_0 : decode cX8_stops 0 = .ok (.aload_n 0, 1) := by decide +kernel
theorem dX8_stops_1 : decode cX8_stops 1 = .ok (.getfield 7, 3) := by decide +kernel
theorem dX8_stops_4 : decode cX8_stops 4 = .ok (.bipush 16, 2) := by decide +kernel
theorem dX8_stops_6 : decode cX8_stops 6 = .ok (.iconst 2, 1) := by decide +kernel
theorem dX8_stops_7 : decode cX8_stops 7 = .ok (.aload_n 0, 1) := by decide +kernel
theorem dX8_stops_8 : decode cX8_stops 8 = .ok (.getfield 7, 3) := by decide +kernel
theorem dX8_stops_11 : decode cX8_stops 11 = .ok (.iconst 2, 1) := by decide +kernel
theorem dX8_stops_12 : decode cX8_stops 12 = .ok (.iaload, 1) := by decide +kernel
theorem dX8_stops_13 : decode cX8_stops 13 = .ok (.imul, 1) := by decide +kernel
theorem dX8_stops_14 : decode cX8_stops 14 = .ok (.iadd, 1) := by decide +kernel
theorem dX8_stops_15 : decode cX8_stops 15 = .ok (.iload_n 1, 1) := by decide +kernel
theorem dX8_stops_16 : decode cX8_stops 16 = .ok (.iastore, 1) := by decide +kernel
theorem dX8_stops_17 : decode cX8_stops 17 = .ok (.aload_n 0, 1) := by decide +kernel
theorem dX8_stops_18 : decode cX8_stops 18 = .ok (.getfield 7, 3) := by decide +kernel
theorem dX8_stops_21 : decode cX8_stops 21 = .ok (.bipush 16, 2) := by decide +kernel
theorem dX8_stops_23 : decode cX8_stops 23 = .ok (.iconst 2, 1) := by decide +kernel
theorem dX8_stops_24 : decode cX8_stops 24 = .ok (.aload_n 0, 1) := by decide +kernel
theorem dX8_stops_25 : decode cX8_stops 25 = .ok (.getfield 7, 3) := by decide +kernel
theorem dX8_stops_28 : decode cX8_stops 28 = .ok (.iconst 2, 1) := by decide +kernel
theorem dX8_stops_29 : decode cX8_stops 29 = .ok (.iaload, 1) := by decide +kernel
theorem dX8_stops_30 : decode cX8_stops 30 = .ok (.imul, 1) := by decide +kernel
theorem dX8_stops_31 : decode cX8_stops 31 = .ok (.iadd, 1) := by decide +kernel
theorem dX8_stops_32 : decode cX8_stops 32 = .ok (.iconst 1, 1) := by decide +kernel
theorem dX8_stops_33 : decode cX8_stops 33 = .ok (.iadd, 1) := by decide +kernel
theorem dX8_stops_34 : decode cX8_stops 34 = .ok (.iload_n 2, 1) := by decide +kernel
theorem dX8_stops_35 : decode cX8_stops 35 = .ok (.iastore, 1) := by decide +kernel
theorem dX8_stops_36 : decode cX8_stops 36 = .ok (.aload_n 0, 1) := by decide +kernel
theorem dX8_stops_37 : decode cX8_stops 37 = .ok (.getfield 7, 3) := by decide +kernel
theorem dX8_stops_40 : decode cX8_stops 40 = .ok (.iconst 2, 1) := by decide +kernel
theorem dX8_stops_41 : decode cX8_stops 41 = .ok (.dup2, 1) := by decide +kernel
theorem dX8_stops_42 : decode cX8_stops 42 = .ok (.iaload, 1) := by decide +kernel
theorem dX8_stops_43 : decode cX8_stops 43 = .ok (.iconst 1, 1) := by decide +kernel
theorem dX8_stops_44 : decode cX8_stops 44 = .ok (.iadd, 1) := by decide +kernel
theorem dX8_stops_45 : decode cX8_stops 45 = .ok (.iastore, 1) := by decide +kernel
theorem dX8_stops_46 : decode cX8_stops 46 = .ok (.aload_n 0, 1) := by decide +kernel
theorem dX8_stops_47 : decode cX8_stops 47 = .ok (.getfield 7, 3) := by decide +kernel
theorem dX8_stops_50 : decode cX8_stops 50 = .ok (.iconst 2, 1) := by decide +kernel
theorem dX8_stops_51 : decode cX8_stops 51 = .ok (.iaload, 1) := by decide +kernel
theorem dX8_stops_52 : decode cX8_stops 52 = .ok (.iconst 1, 1) := by decide +kernel
theorem dX8_stops_53 : decode cX8_stops 53 = .ok (.isub, 1) := by decide +kernel
theorem dX8_stops_54 : decode cX8_stops 54 = .ok (.ireturn, 1) := by decide +kernel
theorem dX8_stop_0 : decode cX8_stop 0 = .ok (.aload_n 0, 1) := by decide +kernel
theorem dX8_stop_1 : decode cX8_stop 1 = .ok (.iload_n 1, 1) := by decide +kernel
theorem dX8_stop_2 : decode cX8_stop 2 = .ok (.iload_n 2, 1) := by decide +kernel
theorem dX8_stop_3 : decode cX8_stop 3 = .ok (.invokevirtual 127, 3) := by decide +kernel
theorem dX8_stop_6 : decode cX8_stop 6 = .ok (.istore_n 3, 1) := by decide +kernel
theorem dX8_stop_7 : decode cX8_stop 7 = .ok (.iload_n 3, 1) := by decide +kernel
theorem dX8_stop_8 : decode cX8_stop 8 = .ok (.ifCond .eq 5, 3) := by decide +kernel
theorem dX8_stop_11 : decode cX8_stop 11 = .ok (.iload_n 3, 1) := by decide +kernel
theorem dX8_stop_12 : decode cX8_stop 12 = .ok (.ireturn, 1) := by decide +kernel
theorem dX8_stop_13 : decode cX8_stop 13 = .ok (.aload_n 0, 1) := by decide +kernel
theorem dX8_stop_14 : decode cX8_stop 14 = .ok (.invokevirtual 44, 3) := by decide +kernel
theorem dX8_stop_17 : decode cX8_stop 17 = .ok (.aload_n 0, 1) := by decide +kernel
theorem dX8_stop_18 : decode cX8_stop 18 = .ok (.iload_n 1, 1) := by decide +kernel
theorem dX8_stop_19 : decode cX8_stop 19 = .ok (.iload_n 2, 1) := by decide +kernel
theorem dX8_stop_20 : decode cX8_stop 20 = .ok (.invokevirtual 130, 3) := by decide +kernel
theorem dX8_stop_23 : decode cX8_stop 23 = .ok (.ireturn, 1) := by decide +kernel
theorem dX8_dropStop_0 : decode cX8_dropStop 0 = .ok (.iload_n 1, 1) := by decide +kernel
theorem dX8_dropStop_1 : decode cX8_dropStop 1 = .ok (.iconst 0, 1) := by decide +kernel
theorem dX8_dropStop_2 : decode cX8_dropStop 2 = .ok (.aload_n 0, 1) := by decide +kernel
theorem dX8_dropStop_3 : decode cX8_dropStop 3 = .ok (.getfield 7, 3) := by decide +kernel
theorem dX8_dropStop_6 : decode cX8_dropStop 6 = .ok (.iconst 2, 1) := by decide +kernel
theorem dX8_dropStop_7 : decode cX8_dropStop 7 = .ok (.iaload, 1) := by decide +kernel
theorem dX8_dropStop_8 : decode cX8_dropStop 8 = .ok (.iconst 1, 1) := by decide +kernel
theorem dX8_dropStop_9 : decode cX8_dropStop 9 = .ok (.isub, 1) := by decide +kernel
theorem dX8_dropStop_10 : decode cX8_dropStop 10 = .ok (.invokestatic 32, 3) := by decide +kernel
theorem dX8_dropStop_13 : decode cX8_dropStop 13 = .ok (.ifCond .ne 5, 3) := by decide +kernel
theorem dX8_dropStop_16 : decode cX8_dropStop 16 = .ok (.iconst (-1), 1) := by decide +kernel
theorem dX8_dropStop_17 : decode cX8_dropStop 17 = .ok (.ireturn, 1) := by decide +kernel
theorem dX8_dropStop_18 : decode cX8_dropStop 18 = .ok (.aload_n 0, 1) := by decide +kernel
theorem dX8_dropStop_19 : decode cX8_dropStop 19 = .ok (.invokevirtual 44, 3) := by decide +kernel
theorem dX8_dropStop_22 : decode cX8_dropStop 22 = .ok (.aload_n 0, 1) := by decide +kernel
theorem dX8_dropStop_23 : decode cX8_dropStop 23 = .ok (.getfield 7, 3) := by decide +kernel
theorem dX8_dropStop_26 : decode cX8_dropStop 26 = .ok (.iconst 2, 1) := by decide +kernel
theorem dX8_dropStop_27 : decode cX8_dropStop 27 = .ok (.dup2, 1) := by decide +kernel
theorem dX8_dropStop_28 : decode cX8_dropStop 28 = .ok (.iaload, 1) := by decide +kernel
theorem dX8_dropStop_29 : decode cX8_dropStop 29 = .ok (.iconst 1, 1) := by decide +kernel
theorem dX8_dropStop_30 : decode cX8_dropStop 30 = .ok (.isub, 1) := by decide +kernel
theorem dX8_dropStop_31 : decode cX8_dropStop 31 = .ok (.iastore, 1) := by decide +kernel
theorem dX8_dropStop_32 : decode cX8_dropStop 32 = .ok (.bipush 16, 2) := by decide +kernel
theorem dX8_dropStop_34 : decode cX8_dropStop 34 = .ok (.iconst 2, 1) := by decide +kernel
theorem dX8_dropStop_35 : decode cX8_dropStop 35 = .ok (.iload_n 1, 1) := by decide +kernel
theorem dX8_dropStop_36 : decode cX8_dropStop 36 = .ok (.imul, 1) := by decide +kernel
theorem dX8_dropStop_37 : decode cX8_dropStop 37 = .ok (.iadd, 1) := by decide +kernel
theorem dX8_dropStop_38 : decode cX8_dropStop 38 = .ok (.istore_n 2, 1) := by decide +kernel
theorem dX8_dropStop_39 : decode cX8_dropStop 39 = .ok (.iload_n 2, 1) := by decide +kernel
theorem dX8_dropStop_40 : decode cX8_dropStop 40 = .ok (.bipush 16, 2) := by decide +kernel
theorem dX8_dropStop_42 : decode cX8_dropStop 42 = .ok (.iconst 2, 1) := by decide +kernel
theorem dX8_dropStop_43 : decode cX8_dropStop 43 = .ok (.aload_n 0, 1) := by decide +kernel
theorem dX8_dropStop_44 : decode cX8_dropStop 44 = .ok (.getfield 7, 3) := by decide +kernel
theorem dX8_dropStop_47 : decode cX8_dropStop 47 = .ok (.iconst 2, 1) := by decide +kernel
theorem dX8_dropStop_48 : decode cX8_dropStop 48 = .ok (.iaload, 1) := by decide +kernel
theorem dX8_dropStop_49 : decode cX8_dropStop 49 = .ok (.imul, 1) := by decide +kernel
theorem dX8_dropStop_50 : decode cX8_dropStop 50 = .ok (.iadd, 1) := by decide +kernel
theorem dX8_dropStop_51 : decode cX8_dropStop 51 = .ok (.if_icmp .ge 23, 3) := by decide +kernel
theorem dX8_dropStop_54 : decode cX8_dropStop 54 = .ok (.aload_n 0, 1) := by decide +kernel
theorem dX8_dropStop_55 : decode cX8_dropStop 55 = .ok (.getfield 7, 3) := by decide +kernel
theorem dX8_dropStop_58 : decode cX8_dropStop 58 = .ok (.iload_n 2, 1) := by decide +kernel
theorem dX8_dropStop_59 : decode cX8_dropStop 59 = .ok (.aload_n 0, 1) := by decide +kernel
theorem dX8_dropStop_60 : decode cX8_dropStop 60 = .ok (.getfield 7, 3) := by decide +kernel
theorem dX8_dropStop_63 : decode cX8_dropStop 63 = .ok (.iload_n 2, 1) := by decide +kernel
theorem dX8_dropStop_64 : decode cX8_dropStop 64 = .ok (.iconst 2, 1) := by decide +kernel
theorem dX8_dropStop_65 : decode cX8_dropStop 65 = .ok (.iadd, 1) := by decide +kernel
theorem dX8_dropStop_66 : decode cX8_dropStop 66 = .ok (.iaload, 1) := by decide +kernel
theorem dX8_dropStop_67 : decode cX8_dropStop 67 = .ok (.iastore, 1) := by decide +kernel
theorem dX8_dropStop_68 : decode cX8_dropStop 68 = .ok (.iinc 2 1, 3) := by decide +kernel
theorem dX8_dropStop_71 : decode cX8_dropStop 71 = .ok (.goto (-32), 3) := by decide +kernel
theorem dX8_dropStop_74 : decode cX8_dropStop 74 = .ok (.aload_n 0, 1) := by decide +kernel
theorem dX8_dropStop_75 : decode cX8_dropStop 75 = .ok (.getfield 7, 3) := by decide +kernel
theorem dX8_dropStop_78 : decode cX8_dropStop 78 = .ok (.iconst 2, 1) := by decide +kernel
theorem dX8_dropStop_79 : decode cX8_dropStop 79 = .ok (.iaload, 1) := by decide +kernel
theorem dX8_dropStop_80 : decode cX8_dropStop 80 = .ok (.ireturn, 1) := by decide +kernel
theorem dX8_mayPass_0 : decode cX8_mayPass 0 = .ok (.iload_n 1, 1) := by decide +kernel
theorem dX8_mayPass_1 : decode cX8_mayPass 1 = .ok (.iconst 1, 1) := by decide +kernel
theorem dX8_mayPass_2 : decode cX8_mayPass 2 = .ok (.bipush 99, 2) := by decide +kernel
theorem dX8_mayPass_4 : decode cX8_mayPass 4 = .ok (.invokestatic 32, 3) := by decide +kernel
theorem dX8_mayPass_7 : decode cX8_mayPass 7 = .ok (.ifCond .ne 8, 3) := by decide +kernel
theorem dX8_mayPass_10 : decode cX8_mayPass 10 = .ok (.bipush (-2), 2) := by decide +kernel
theorem dX8_mayPass_12 : decode cX8_mayPass 12 = .ok (.goto 23, 3) := by decide +kernel
theorem dX8_mayPass_15 : decode cX8_mayPass 15 = .ok (.aload_n 0, 1) := by decide +kernel
theorem dX8_mayPass_16 : decode cX8_mayPass 16 = .ok (.getfield 7, 3) := by decide +kernel
theorem dX8_mayPass_19 : decode cX8_mayPass 19 = .ok (.iconst 0, 1) := by decide +kernel
theorem dX8_mayPass_20 : decode cX8_mayPass 20 = .ok (.iaload, 1) := by decide +kernel
theorem dX8_mayPass_21 : decode cX8_mayPass 21 = .ok (.iload_n 1, 1) := by decide +kernel
theorem dX8_mayPass_22 : decode cX8_mayPass 22 = .ok (.iadd, 1) := by decide +kernel
theorem dX8_mayPass_23 : decode cX8_mayPass 23 = .ok (.sipush 1000, 3) := by decide +kernel
theorem dX8_mayPass_26 : decode cX8_mayPass 26 = .ok (.if_icmp .le 8, 3) := by decide +kernel
theorem dX8_mayPass_29 : decode cX8_mayPass 29 = .ok (.bipush (-5), 2) := by decide +kernel
theorem dX8_mayPass_31 : decode cX8_mayPass 31 = .ok (.goto 4, 3) := by decide +kernel
theorem dX8_mayPass_34 : decode cX8_mayPass 34 = .ok (.iconst 0, 1) := by decide +kernel
theorem dX8_mayPass_35 : decode cX8_mayPass 35 = .ok (.ireturn, 1) := by decide +kernel
theorem dX8_pass_0 : decode cX8_pass 0 = .ok (.aload_n 0, 1) := by decide +kernel
theorem dX8_pass_1 : decode cX8_pass 1 = .ok (.iload_n 1, 1) := by decide +kernel
theorem dX8_pass_2 : decode cX8_pass 2 = .ok (.invokevirtual 133, 3) := by decide +kernel
theorem dX8_pass_5 : decode cX8_pass 5 = .ok (.istore_n 2, 1) := by decide +kernel
theorem dX8_pass_6 : decode cX8_pass 6 = .ok (.iload_n 2, 1) := by decide +kernel
theorem dX8_pass_7 : decode cX8_pass 7 = .ok (.ifCond .eq 5, 3) := by decide +kernel
theorem dX8_pass_10 : decode cX8_pass 10 = .ok (.iload_n 2, 1) := by decide +kernel
theorem dX8_pass_11 : decode cX8_pass 11 = .ok (.ireturn, 1) := by decide +kernel
theorem dX8_pass_12 : decode cX8_pass 12 = .ok (.aload_n 0, 1) := by decide +kernel
theorem dX8_pass_13 : decode cX8_pass 13 = .ok (.invokevirtual 44, 3) := by decide +kernel
theorem dX8_pass_16 : decode cX8_pass 16 = .ok (.aload_n 0, 1) := by decide +kernel
theorem dX8_pass_17 : decode cX8_pass 17 = .ok (.getfield 7, 3) := by decide +kernel
theorem dX8_pass_20 : decode cX8_pass 20 = .ok (.iload_n 1, 1) := by decide +kernel
theorem dX8_pass_21 : decode cX8_pass 21 = .ok (.iconst 0, 1) := by decide +kernel
theorem dX8_pass_22 : decode cX8_pass 22 = .ok (.invokestatic 137, 3) := by decide +kernel
theorem dX8_pass_25 : decode cX8_pass 25 = .ok (.aload_n 0, 1) := by decide +kernel
theorem dX8_pass_26 : decode cX8_pass 26 = .ok (.getfield 7, 3) := by decide +kernel
theorem dX8_pass_29 : decode cX8_pass 29 = .ok (.iconst 0, 1) := by decide +kernel
theorem dX8_pass_30 : decode cX8_pass 30 = .ok (.iaload, 1) := by decide +kernel
theorem dX8_pass_31 : decode cX8_pass 31 = .ok (.ireturn, 1) := by decide +kernel
theorem dX8_ofField_0 : decode cX8_ofField 0 = .ok (.iload_n 1, 1) := by decide +kernel
theorem dX8_ofField_1 : decode cX8_ofField 1 = .ok (.iconst 0, 1) := by decide +kernel
theorem dX8_ofField_2 : decode cX8_ofField 2 = .ok (.aload_n 0, 1) := by decide +kernel
theorem dX8_ofField_3 : decode cX8_ofField 3 = .ok (.getfield 7, 3) := by decide +kernel
theorem dX8_ofField_6 : decode cX8_ofField 6 = .ok (.iconst 1, 1) := by decide +kernel
theorem dX8_ofField_7 : decode cX8_ofField 7 = .ok (.iaload, 1) := by decide +kernel
theorem dX8_ofField_8 : decode cX8_ofField 8 = .ok (.iconst 1, 1) := by decide +kernel
theorem dX8_ofField_9 : decode cX8_ofField 9 = .ok (.isub, 1) := by decide +kernel
theorem dX8_ofField_10 : decode cX8_ofField 10 = .ok (.invokestatic 32, 3) := by decide +kernel
theorem dX8_ofField_13 : decode cX8_ofField 13 = .ok (.ifCond .ne 5, 3) := by decide +kernel
theorem dX8_ofField_16 : decode cX8_ofField 16 = .ok (.iconst (-1), 1) := by decide +kernel
theorem dX8_ofField_17 : decode cX8_ofField 17 = .ok (.ireturn, 1) := by decide +kernel
theorem dX8_ofField_18 : decode cX8_ofField 18 = .ok (.iload_n 2, 1) := by decide +kernel
theorem dX8_ofField_19 : decode cX8_ofField 19 = .ok (.iconst 0, 1) := by decide +kernel
theorem dX8_ofField_20 : decode cX8_ofField 20 = .ok (.bipush 9, 2) := by decide +kernel
theorem dX8_ofField_22 : decode cX8_ofField 22 = .ok (.invokestatic 32, 3) := by decide +kernel
theorem dX8_ofField_25 : decode cX8_ofField 25 = .ok (.ifCond .ne 6, 3) := by decide +kernel
theorem dX8_ofField_28 : decode cX8_ofField 28 = .ok (.bipush (-2), 2) := by decide +kernel
theorem dX8_ofField_30 : decode cX8_ofField 30 = .ok (.ireturn, 1) := by decide +kernel
theorem dX8_ofField_31 : decode cX8_ofField 31 = .ok (.iload_n 2, 1) := by decide +kernel
theorem dX8_ofField_32 : decode cX8_ofField 32 = .ok (.iconst 4, 1) := by decide +kernel
theorem dX8_ofField_33 : decode cX8_ofField 33 = .ok (.if_icmp .ge 15, 3) := by decide +kernel
theorem dX8_ofField_36 : decode cX8_ofField 36 = .ok (.aload_n 0, 1) := by decide +kernel
theorem dX8_ofField_37 : decode cX8_ofField 37 = .ok (.getfield 7, 3) := by decide +kernel
theorem dX8_ofField_40 : decode cX8_ofField 40 = .ok (.iload_n 1, 1) := by decide +kernel
theorem dX8_ofField_41 : decode cX8_ofField 41 = .ok (.iload_n 2, 1) := by decide +kernel
theorem dX8_ofField_42 : decode cX8_ofField 42 = .ok (.invokestatic 47, 3) := by decide +kernel
theorem dX8_ofField_45 : decode cX8_ofField 45 = .ok (.goto 49, 3) := by decide +kernel
theorem dX8_ofField_48 : decode cX8_ofField 48 = .ok (.iload_n 2, 1) := by decide +kernel
theorem dX8_ofField_49 : decode cX8_ofField 49 = .ok (.iconst 4, 1) := by decide +kernel
theorem dX8_ofField_50 : decode cX8_ofField 50 = .ok (.if_icmp .ne 14, 3) := by decide +kernel
theorem dX8_ofField_53 : decode cX8_ofField 53 = .ok (.aload_n 0, 1) := by decide +kernel
theorem dX8_ofField_54 : decode cX8_ofField 54 = .ok (.getfield 7, 3) := by decide +kernel
theorem dX8_ofField_57 : decode cX8_ofField 57 = .ok (.iload_n 1, 1) := by decide +kernel
theorem dX8_ofField_58 : decode cX8_ofField 58 = .ok (.invokestatic 51, 3) := by decide +kernel
theorem dX8_ofField_61 : decode cX8_ofField 61 = .ok (.goto 33, 3) := by decide +kernel
theorem dX8_ofField_64 : decode cX8_ofField 64 = .ok (.iload_n 2, 1) := by decide +kernel
theorem dX8_ofField_65 : decode cX8_ofField 65 = .ok (.bipush 9, 2) := by decide +kernel
theorem dX8_ofField_67 : decode cX8_ofField 67 = .ok (.if_icmp .ne 14, 3) := by decide +kernel
theorem dX8_ofField_70 : decode cX8_ofField 70 = .ok (.aload_n 0, 1) := by decide +kernel
theorem dX8_ofField_71 : decode cX8_ofField 71 = .ok (.getfield 7, 3) := by decide +kernel
theorem dX8_ofField_74 : decode cX8_ofField 74 = .ok (.iload_n 1, 1) := by decide +kernel
theorem dX8_ofField_75 : decode cX8_ofField 75 = .ok (.invokestatic 67, 3) := by decide +kernel
theorem dX8_ofField_78 : decode cX8_ofField 78 = .ok (.goto 16, 3) := by decide +kernel
theorem dX8_ofField_81 : decode cX8_ofField 81 = .ok (.aload_n 0, 1) := by decide +kernel
theorem dX8_ofField_82 : decode cX8_ofField 82 = .ok (.getfield 7, 3) := by decide +kernel
theorem dX8_ofField_85 : decode cX8_ofField 85 = .ok (.iload_n 1, 1) := by decide +kernel
theorem dX8_ofField_86 : decode cX8_ofField 86 = .ok (.iconst 4, 1) := by decide +kernel
theorem dX8_ofField_87 : decode cX8_ofField 87 = .ok (.iload_n 2, 1) := by decide +kernel
theorem dX8_ofField_88 : decode cX8_ofField 88 = .ok (.iadd, 1) := by decide +kernel
theorem dX8_ofField_89 : decode cX8_ofField 89 = .ok (.iconst 5, 1) := by decide +kernel
theorem dX8_ofField_90 : decode cX8_ofField 90 = .ok (.isub, 1) := by decide +kernel
theorem dX8_ofField_91 : decode cX8_ofField 91 = .ok (.invokestatic 47, 3) := by decide +kernel
theorem dX8_ofField_94 : decode cX8_ofField 94 = .ok (.ireturn, 1) := by decide +kernel
theorem dX8_burnt_0 : decode cX8_burnt 0 = .ok (.iconst 0, 1) := by decide +kernel
theorem dX8_burnt_1 : decode cX8_burnt 1 = .ok (.istore_n 2, 1) := by decide +kernel
theorem dX8_burnt_2 : decode cX8_burnt 2 = .ok (.iconst 0, 1) := by decide +kernel
theorem dX8_burnt_3 : decode cX8_burnt 3 = .ok (.istore_n 3, 1) := by decide +kernel
theorem dX8_burnt_4 : decode cX8_burnt 4 = .ok (.iload_n 3, 1) := by decide +kernel
theorem dX8_burnt_5 : decode cX8_burnt 5 = .ok (.aload_n 0, 1) := by decide +kernel
theorem dX8_burnt_6 : decode cX8_burnt 6 = .ok (.getfield 7, 3) := by decide +kernel
theorem dX8_burnt_9 : decode cX8_burnt 9 = .ok (.iconst 1, 1) := by decide +kernel
theorem dX8_burnt_10 : decode cX8_burnt 10 = .ok (.iaload, 1) := by decide +kernel
theorem dX8_burnt_11 : decode cX8_burnt 11 = .ok (.if_icmp .ge 50, 3) := by decide +kernel
theorem dX8_burnt_14 : decode cX8_burnt 14 = .ok (.iload_n 2, 1) := by decide +kernel
theorem dX8_burnt_15 : decode cX8_burnt 15 = .ok (.aload_n 0, 1) := by decide +kernel
theorem dX8_burnt_16 : decode cX8_burnt 16 = .ok (.getfield 7, 3) := by decide +kernel
theorem dX8_burnt_19 : decode cX8_burnt 19 = .ok (.iload_n 3, 1) := by decide +kernel
theorem dX8_burnt_20 : decode cX8_burnt 20 = .ok (.iconst 0, 1) := by decide +kernel
theorem dX8_burnt_21 : decode cX8_burnt 21 = .ok (.invokestatic 47, 3) := by decide +kernel
theorem dX8_burnt_24 : decode cX8_burnt 24 = .ok (.iload_n 1, 1) := by decide +kernel
theorem dX8_burnt_25 : decode cX8_burnt 25 = .ok (.if_icmp .ne 27, 3) := by decide +kernel
theorem dX8_burnt_28 : decode cX8_burnt 28 = .ok (.aload_n 0, 1) := by decide +kernel
theorem dX8_burnt_29 : decode cX8_burnt 29 = .ok (.getfield 7, 3) := by decide +kernel
theorem dX8_burnt_32 : decode cX8_burnt 32 = .ok (.iload_n 3, 1) := by decide +kernel
theorem dX8_burnt_33 : decode cX8_burnt 33 = .ok (.invokestatic 51, 3) := by decide +kernel
theorem dX8_burnt_36 : decode cX8_burnt 36 = .ok (.iconst 1, 1) := by decide +kernel
theorem dX8_burnt_37 : decode cX8_burnt 37 = .ok (.if_icmp .ne 15, 3) := by decide +kernel
theorem dX8_burnt_40 : decode cX8_burnt 40 = .ok (.aload_n 0, 1) := by decide +kernel
theorem dX8_burnt_41 : decode cX8_burnt 41 = .ok (.getfield 7, 3) := by decide +kernel
theorem dX8_burnt_44 : decode cX8_burnt 44 = .ok (.iload_n 3, 1) := by decide +kernel
theorem dX8_burnt_45 : decode cX8_burnt 45 = .ok (.iconst 4, 1) := by decide +kernel
theorem dX8_burnt_46 : decode cX8_burnt 46 = .ok (.invokestatic 47, 3) := by decide +kernel
theorem dX8_burnt_49 : decode cX8_burnt 49 = .ok (.goto 4, 3) := by decide +kernel
theorem dX8_burnt_52 : decode cX8_burnt 52 = .ok (.iconst 0, 1) := by decide +kernel
theorem dX8_burnt_53 : decode cX8_burnt 53 = .ok (.iadd, 1) := by decide +kernel
theorem dX8_burnt_54 : decode cX8_burnt 54 = .ok (.istore_n 2, 1) := by decide +kernel
theorem dX8_burnt_55 : decode cX8_burnt 55 = .ok (.iinc 3 1, 3) := by decide +kernel
theorem dX8_burnt_58 : decode cX8_burnt 58 = .ok (.goto (-54), 3) := by decide +kernel
theorem dX8_burnt_61 : decode cX8_burnt 61 = .ok (.iload_n 2, 1) := by decide +kernel
theorem dX8_burnt_62 : decode cX8_burnt 62 = .ok (.ireturn, 1) := by decide +kernel
theorem dX8_ofGrower_0 : decode cX8_ofGrower 0 = .ok (.iload_n 1, 1) := by decide +kernel
theorem dX8_ofGrower_1 : decode cX8_ofGrower 1 = .ok (.invokestatic 103, 3) := by decide +kernel
theorem dX8_ofGrower_4 : decode cX8_ofGrower 4 = .ok (.ifCond .ne 5, 3) := by decide +kernel
theorem dX8_ofGrower_7 : decode cX8_ofGrower 7 = .ok (.iconst (-1), 1) := by decide +kernel
theorem dX8_ofGrower_8 : decode cX8_ofGrower 8 = .ok (.ireturn, 1) := by decide +kernel
theorem dX8_ofGrower_9 : decode cX8_ofGrower 9 = .ok (.iload_n 2, 1) := by decide +kernel
theorem dX8_ofGrower_10 : decode cX8_ofGrower 10 = .ok (.iconst 0, 1) := by decide +kernel
theorem dX8_ofGrower_11 : decode cX8_ofGrower 11 = .ok (.iconst 5, 1) := by decide +kernel
theorem dX8_ofGrower_12 : decode cX8_ofGrower 12 = .ok (.invokestatic 32, 3) := by decide +kernel
theorem dX8_ofGrower_15 : decode cX8_ofGrower 15 = .ok (.ifCond .ne 6, 3) := by decide +kernel
theorem dX8_ofGrower_18 : decode cX8_ofGrower 18 = .ok (.bipush (-2), 2) := by decide +kernel
theorem dX8_ofGrower_20 : decode cX8_ofGrower 20 = .ok (.ireturn, 1) := by decide +kernel
theorem dX8_ofGrower_21 : decode cX8_ofGrower 21 = .ok (.iload_n 2, 1) := by decide +kernel
theorem dX8_ofGrower_22 : decode cX8_ofGrower 22 = .ok (.ifCond .ne 15, 3) := by decide +kernel
theorem dX8_ofGrower_25 : decode cX8_ofGrower 25 = .ok (.aload_n 0, 1) := by decide +kernel
theorem dX8_ofGrower_26 : decode cX8_ofGrower 26 = .ok (.getfield 7, 3) := by decide +kernel
theorem dX8_ofGrower_29 : decode cX8_ofGrower 29 = .ok (.bipush 10, 2) := by decide +kernel
theorem dX8_ofGrower_31 : decode cX8_ofGrower 31 = .ok (.iload_n 1, 1) := by decide +kernel
theorem dX8_ofGrower_32 : decode cX8_ofGrower 32 = .ok (.iadd, 1) := by decide +kernel
theorem dX8_ofGrower_33 : decode cX8_ofGrower 33 = .ok (.iaload, 1) := by decide +kernel
theorem dX8_ofGrower_34 : decode cX8_ofGrower 34 = .ok (.goto 31, 3) := by decide +kernel
theorem dX8_ofGrower_37 : decode cX8_ofGrower 37 = .ok (.iload_n 2, 1) := by decide +kernel
theorem dX8_ofGrower_38 : decode cX8_ofGrower 38 = .ok (.iconst 5, 1) := by decide +kernel
theorem dX8_ofGrower_39 : decode cX8_ofGrower 39 = .ok (.if_icmp .ge 21, 3) := by decide +kernel
theorem dX8_ofGrower_42 : decode cX8_ofGrower 42 = .ok (.aload_n 0, 1) := by decide +kernel
theorem dX8_ofGrower_43 : decode cX8_ofGrower 43 = .ok (.getfield 7, 3) := by decide +kernel
theorem dX8_ofGrower_46 : decode cX8_ofGrower 46 = .ok (.bipush 32, 2) := by decide +kernel
theorem dX8_ofGrower_48 : decode cX8_ofGrower 48 = .ok (.iconst 4, 1) := by decide +kernel
theorem dX8_ofGrower_49 : decode cX8_ofGrower 49 = .ok (.iload_n 1, 1) := by decide +kernel
theorem dX8_ofGrower_50 : decode cX8_ofGrower 50 = .ok (.imul, 1) := by decide +kernel
theorem dX8_ofGrower_51 : decode cX8_ofGrower 51 = .ok (.iadd, 1) := by decide +kernel
theorem dX8_ofGrower_52 : decode cX8_ofGrower 52 = .ok (.iload_n 2, 1) := by decide +kernel
theorem dX8_ofGrower_53 : decode cX8_ofGrower 53 = .ok (.iadd, 1) := by decide +kernel
theorem dX8_ofGrower_54 : decode cX8_ofGrower 54 = .ok (.iconst 1, 1) := by decide +kernel
theorem dX8_ofGrower_55 : decode cX8_ofGrower 55 = .ok (.isub, 1) := by decide +kernel
theorem dX8_ofGrower_56 : decode cX8_ofGrower 56 = .ok (.iaload, 1) := by decide +kernel
theorem dX8_ofGrower_57 : decode cX8_ofGrower 57 = .ok (.goto 8, 3) := by decide +kernel
theorem dX8_ofGrower_60 : decode cX8_ofGrower 60 = .ok (.aload_n 0, 1) := by decide +kernel
theorem dX8_ofGrower_61 : decode cX8_ofGrower 61 = .ok (.iload_n 1, 1) := by decide +kernel
theorem dX8_ofGrower_62 : decode cX8_ofGrower 62 = .ok (.invokevirtual 140, 3) := by decide +kernel
theorem dX8_ofGrower_65 : decode cX8_ofGrower 65 = .ok (.ireturn, 1) := by decide +kernel
theorem dX8_load_0 : decode cX8_load 0 = .ok (.iload_n 1, 1) := by decide +kernel
theorem dX8_load_1 : decode cX8_load 1 = .ok (.iconst 0, 1) := by decide +kernel
theorem dX8_load_2 : decode cX8_load 2 = .ok (.aload_n 0, 1) := by decide +kernel
theorem dX8_load_3 : decode cX8_load 3 = .ok (.getfield 7, 3) := by decide +kernel
theorem dX8_load_6 : decode cX8_load 6 = .ok (.sipush 296, 3) := by decide +kernel
theorem dX8_load_9 : decode cX8_load 9 = .ok (.iaload, 1) := by decide +kernel
theorem dX8_load_10 : decode cX8_load 10 = .ok (.iconst 1, 1) := by decide +kernel
theorem dX8_load_11 : decode cX8_load 11 = .ok (.isub, 1) := by decide +kernel
theorem dX8_load_12 : decode cX8_load 12 = .ok (.invokestatic 32, 3) := by decide +kernel
theorem dX8_load_15 : decode cX8_load 15 = .ok (.ifCond .ne 5, 3) := by decide +kernel
theorem dX8_load_18 : decode cX8_load 18 = .ok (.iconst (-1), 1) := by decide +kernel
theorem dX8_load_19 : decode cX8_load 19 = .ok (.ireturn, 1) := by decide +kernel
theorem dX8_load_20 : decode cX8_load 20 = .ok (.iload_n 2, 1) := by decide +kernel
theorem dX8_load_21 : decode cX8_load 21 = .ok (.iconst 0, 1) := by decide +kernel
theorem dX8_load_22 : decode cX8_load 22 = .ok (.iconst 2, 1) := by decide +kernel
theorem dX8_load_23 : decode cX8_load 23 = .ok (.invokestatic 32, 3) := by decide +kernel
theorem dX8_load_26 : decode cX8_load 26 = .ok (.ifCond .eq 20, 3) := by decide +kernel
theorem dX8_load_29 : decode cX8_load 29 = .ok (.aload_n 0, 1) := by decide +kernel
theorem dX8_load_30 : decode cX8_load 30 = .ok (.getfield 7, 3) := by decide +kernel
theorem dX8_load_33 : decode cX8_load 33 = .ok (.sipush 297, 3) := by decide +kernel
theorem dX8_load_36 : decode cX8_load 36 = .ok (.iconst 3, 1) := by decide +kernel
theorem dX8_load_37 : decode cX8_load 37 = .ok (.iload_n 1, 1) := by decide +kernel
theorem dX8_load_38 : decode cX8_load 38 = .ok (.imul, 1) := by decide +kernel
theorem dX8_load_39 : decode cX8_load 39 = .ok (.iadd, 1) := by decide +kernel
theorem dX8_load_40 : decode cX8_load 40 = .ok (.iload_n 2, 1) := by decide +kernel
theorem dX8_load_41 : decode cX8_load 41 = .ok (.iadd, 1) := by decide +kernel
theorem dX8_load_42 : decode cX8_load 42 = .ok (.iaload, 1) := by decide +kernel
theorem dX8_load_43 : decode cX8_load 43 = .ok (.goto 5, 3) := by decide +kernel
theorem dX8_load_46 : decode cX8_load 46 = .ok (.bipush (-2), 2) := by decide +kernel
theorem dX8_load_48 : decode cX8_load 48 = .ok (.ireturn, 1) := by decide +kernel
theorem dX8_count_0 : decode cX8_count 0 = .ok (.iload_n 1, 1) := by decide +kernel
theorem dX8_count_1 : decode cX8_count 1 = .ok (.iconst 0, 1) := by decide +kernel
theorem dX8_count_2 : decode cX8_count 2 = .ok (.bipush 19, 2) := by decide +kernel
theorem dX8_count_4 : decode cX8_count 4 = .ok (.invokestatic 32, 3) := by decide +kernel
theorem dX8_count_7 : decode cX8_count 7 = .ok (.ifCond .ne 6, 3) := by decide +kernel
theorem dX8_count_10 : decode cX8_count 10 = .ok (.bipush (-2), 2) := by decide +kernel
theorem dX8_count_12 : decode cX8_count 12 = .ok (.ireturn, 1) := by decide +kernel
theorem dX8_count_13 : decode cX8_count 13 = .ok (.iload_n 1, 1) := by decide +kernel
theorem dX8_count_14 : decode cX8_count 14 = .ok (.iconst 5, 1) := by decide +kernel
theorem dX8_count_15 : decode cX8_count 15 = .ok (.if_icmp .ge 41, 3) := by decide +kernel
theorem dX8_count_18 : decode cX8_count 18 = .ok (.iload_n 1, 1) := by decide +kernel
theorem dX8_count_19 : decode cX8_count 19 = .ok (.iconst 3, 1) := by decide +kernel
theorem dX8_count_20 : decode cX8_count 20 = .ok (.if_icmp .ge 12, 3) := by decide +kernel
theorem dX8_count_23 : decode cX8_count 23 = .ok (.aload_n 0, 1) := by decide +kernel
theorem dX8_count_24 : decode cX8_count 24 = .ok (.getfield 7, 3) := by decide +kernel
theorem dX8_count_27 : decode cX8_count 27 = .ok (.iload_n 1, 1) := by decide +kernel
theorem dX8_count_28 : decode cX8_count 28 = .ok (.iaload, 1) := by decide +kernel
theorem dX8_count_29 : decode cX8_count 29 = .ok (.goto 26, 3) := by decide +kernel
theorem dX8_count_32 : decode cX8_count 32 = .ok (.iload_n 1, 1) := by decide +kernel
theorem dX8_count_33 : decode cX8_count 33 = .ok (.iconst 3, 1) := by decide +kernel
theorem dX8_count_34 : decode cX8_count 34 = .ok (.if_icmp .ne 13, 3) := by decide +kernel
theorem dX8_count_37 : decode cX8_count 37 = .ok (.aload_n 0, 1) := by decide +kernel
theorem dX8_count_38 : decode cX8_count 38 = .ok (.getfield 7, 3) := by decide +kernel
theorem dX8_count_41 : decode cX8_count 41 = .ok (.invokestatic 59, 3) := by decide +kernel
theorem dX8_count_44 : decode cX8_count 44 = .ok (.goto 11, 3) := by decide +kernel
theorem dX8_count_47 : decode cX8_count 47 = .ok (.aload_n 0, 1) := by decide +kernel
theorem dX8_count_48 : decode cX8_count 48 = .ok (.getfield 7, 3) := by decide +kernel
theorem dX8_count_51 : decode cX8_count 51 = .ok (.sipush 296, 3) := by decide +kernel
theorem dX8_count_54 : decode cX8_count 54 = .ok (.iaload, 1) := by decide +kernel
theorem dX8_count_55 : decode cX8_count 55 = .ok (.ireturn, 1) := by decide +kernel
theorem dX8_count_56 : decode cX8_count 56 = .ok (.iload_n 1, 1) := by decide +kernel
theorem dX8_count_57 : decode cX8_count 57 = .ok (.bipush 11, 2) := by decide +kernel
theorem dX8_count_59 : decode cX8_count 59 = .ok (.if_icmp .ge 17, 3) := by decide +kernel
theorem dX8_count_62 : decode cX8_count 62 = .ok (.aload_n 0, 1) := by decide +kernel
theorem dX8_count_63 : decode cX8_count 63 = .ok (.getfield 7, 3) := by decide +kernel
theorem dX8_count_66 : decode cX8_count 66 = .ok (.bipush 26, 2) := by decide +kernel
theorem dX8_count_68 : decode cX8_count 68 = .ok (.iload_n 1, 1) := by decide +kernel
theorem dX8_count_69 : decode cX8_count 69 = .ok (.iadd, 1) := by decide +kernel
theorem dX8_count_70 : decode cX8_count 70 = .ok (.iconst 5, 1) := by decide +kernel
theorem dX8_count_71 : decode cX8_count 71 = .ok (.isub, 1) := by decide +kernel
theorem dX8_count_72 : decode cX8_count 72 = .ok (.iaload, 1) := by decide +kernel
theorem dX8_count_73 : decode cX8_count 73 = .ok (.goto 40, 3) := by decide +kernel
theorem dX8_count_76 : decode cX8_count 76 = .ok (.iload_n 1, 1) := by decide +kernel
theorem dX8_count_77 : decode cX8_count 77 = .ok (.bipush 18, 2) := by decide +kernel
theorem dX8_count_79 : decode cX8_count 79 = .ok (.if_icmp .ge 17, 3) := by decide +kernel
theorem dX8_count_82 : decode cX8_count 82 = .ok (.aload_n 0, 1) := by decide +kernel
theorem dX8_count_83 : decode cX8_count 83 = .ok (.getfield 7, 3) := by decide +kernel
theorem dX8_count_86 : decode cX8_count 86 = .ok (.iconst 3, 1) := by decide +kernel
theorem dX8_count_87 : decode cX8_count 87 = .ok (.iload_n 1, 1) := by decide +kernel
theorem dX8_count_88 : decode cX8_count 88 = .ok (.iadd, 1) := by decide +kernel
theorem dX8_count_89 : decode cX8_count 89 = .ok (.bipush 11, 2) := by decide +kernel
theorem dX8_count_91 : decode cX8_count 91 = .ok (.isub, 1) := by decide +kernel
theorem dX8_count_92 : decode cX8_count 92 = .ok (.iaload, 1) := by decide +kernel
theorem dX8_count_93 : decode cX8_count 93 = .ok (.goto 20, 3) := by decide +kernel
theorem dX8_count_96 : decode cX8_count 96 = .ok (.iload_n 1, 1) := by decide +kernel
theorem dX8_count_97 : decode cX8_count 97 = .ok (.bipush 18, 2) := by decide +kernel
theorem dX8_count_99 : decode cX8_count 99 = .ok (.if_icmp .ne 10, 3) := by decide +kernel
theorem dX8_count_102 : decode cX8_count 102 = .ok (.aload_n 0, 1) := by decide +kernel
theorem dX8_count_103 : decode cX8_count 103 = .ok (.getfield 143, 3) := by decide +kernel
theorem dX8_count_106 : decode cX8_count 106 = .ok (.goto 7, 3) := by decide +kernel
theorem dX8_count_109 : decode cX8_count 109 = .ok (.aload_n 0, 1) := by decide +kernel
theorem dX8_count_110 : decode cX8_count 110 = .ok (.getfield 36, 3) := by decide +kernel
theorem dX8_count_113 : decode cX8_count 113 = .ok (.ireturn, 1) := by decide +kernel
theorem dX8_fields_0 : decode cX8_fields 0 = .ok (.iload_n 1, 1) := by decide +kernel
theorem dX8_fields_1 : decode cX8_fields 1 = .ok (.iconst 0, 1) := by decide +kernel
theorem dX8_fields_2 : decode cX8_fields 2 = .ok (.iconst 3, 1) := by decide +kernel
theorem dX8_fields_3 : decode cX8_fields 3 = .ok (.invokestatic 32, 3) := by decide +kernel
theorem dX8_fields_6 : decode cX8_fields 6 = .ok (.ifCond .ne 7, 3) := by decide +kernel
theorem dX8_fields_9 : decode cX8_fields 9 = .ok (.ldc2_w 146, 3) := by decide +kernel
theorem dX8_fields_12 : decode cX8_fields 12 = .ok (.lreturn, 1) := by decide +kernel
theorem dX8_fields_13 : decode cX8_fields 13 = .ok (.lconst 0, 1) := by decide +kernel
theorem dX8_fields_14 : decode cX8_fields 14 = .ok (.lstore_n 2, 1) := by decide +kernel
theorem dX8_fields_15 : decode cX8_fields 15 = .ok (.iconst 0, 1) := by decide +kernel
theorem dX8_fields_16 : decode cX8_fields 16 = .ok (.istore 4, 2) := by decide +kernel
theorem dX8_fields_18 : decode cX8_fields 18 = .ok (.iload 4, 2) := by decide +kernel
theorem dX8_fields_20 : decode cX8_fields 20 = .ok (.aload_n 0, 1) := by decide +kernel
theorem dX8_fields_21 : decode cX8_fields 21 = .ok (.getfield 7, 3) := by decide +kernel
theorem dX8_fields_24 : decode cX8_fields 24 = .ok (.iconst 1, 1) := by decide +kernel
theorem dX8_fields_25 : decode cX8_fields 25 = .ok (.iaload, 1) := by decide +kernel
theorem dX8_fields_26 : decode cX8_fields 26 = .ok (.if_icmp .ge 33, 3) := by decide +kernel
theorem dX8_fields_29 : decode cX8_fields 29 = .ok (.lload_n 2, 1) := by decide +kernel
theorem dX8_fields_30 : decode cX8_fields 30 = .ok (.aload_n 0, 1) := by decide +kernel
theorem dX8_fields_31 : decode cX8_fields 31 = .ok (.getfield 7, 3) := by decide +kernel
theorem dX8_fields_34 : decode cX8_fields 34 = .ok (.iload 4, 2) := by decide +kernel
theorem dX8_fields_36 : decode cX8_fields 36 = .ok (.invokestatic 51, 3) := by decide +kernel
theorem dX8_fields_39 : decode cX8_fields 39 = .ok (.iload_n 1, 1) := by decide +kernel
theorem dX8_fields_40 : decode cX8_fields 40 = .ok (.if_icmp .ne 10, 3) := by decide +kernel
theorem dX8_fields_43 : decode cX8_fields 43 = .ok (.lconst 1, 1) := by decide +kernel
theorem dX8_fields_44 : decode cX8_fields 44 = .ok (.iload 4, 2) := by decide +kernel
theorem dX8_fields_46 : decode cX8_fields 46 = .ok (.lshl, 1) := by decide +kernel
theorem dX8_fields_47 : decode cX8_fields 47 = .ok (.goto 4, 3) := by decide +kernel
theorem dX8_fields_50 : decode cX8_fields 50 = .ok (.lconst 0, 1) := by decide +kernel
theorem dX8_fields_51 : decode cX8_fields 51 = .ok (.lor, 1) := by decide +kernel
theorem dX8_fields_52 : decode cX8_fields 52 = .ok (.lstore_n 2, 1) := by decide +kernel
theorem dX8_fields_53 : decode cX8_fields 53 = .ok (.iinc 4 1, 3) := by decide +kernel
theorem dX8_fields_56 : decode cX8_fields 56 = .ok (.goto (-38), 3) := by decide +kernel
theorem dX8_fields_59 : decode cX8_fields 59 = .ok (.lload_n 2, 1) := by decide +kernel
theorem dX8_fields_60 : decode cX8_fields 60 = .ok (.lreturn, 1) := by decide +kernel
theorem dX8_next_0 : decode cX8_next 0 = .ok (.aload_n 0, 1) := by decide +kernel
theorem dX8_next_1 : decode cX8_next 1 = .ok (.getfield 7, 3) := by decide +kernel
theorem dX8_next_4 : decode cX8_next 4 = .ok (.invokestatic 78, 3) := by decide +kernel
theorem dX8_next_7 : decode cX8_next 7 = .ok (.ireturn, 1) := by decide +kernel
theorem dX8_tries_0 : decode cX8_tries 0 = .ok (.aload_n 0, 1) := by decide +kernel
theorem dX8_tries_1 : decode cX8_tries 1 = .ok (.getfield 13, 3) := by decide +kernel
theorem dX8_tries_4 : decode cX8_tries 4 = .ok (.iload_n 1, 1) := by decide +kernel
theorem dX8_tries_5 : decode cX8_tries 5 = .ok (.iload_n 2, 1) := by decide +kernel
theorem dX8_tries_6 : decode cX8_tries 6 = .ok (.invokestatic 137, 3) := by decide +kernel
theorem dX8_tries_9 : decode cX8_tries 9 = .ok (.return_, 1) := by decide +kernel
theorem dX8_then_0 : decode cX8_then 0 = .ok (.iload_n 1, 1) := by decide +kernel
theorem dX8_then_1 : decode cX8_then 1 = .ok (.iconst 1, 1) := by decide +kernel
theorem dX8_then_2 : decode cX8_then 2 = .ok (.sipush 300, 3) := by decide +kernel
theorem dX8_then_5 : decode cX8_then 5 = .ok (.invokestatic 32, 3) := by decide +kernel
theorem dX8_then_8 : decode cX8_then 8 = .ok (.ifCond .eq 12, 3) := by decide +kernel
theorem dX8_then_11 : decode cX8_then 11 = .ok (.iload_n 2, 1) := by decide +kernel
theorem dX8_then_12 : decode cX8_then 12 = .ok (.iconst 0, 1) := by decide +kernel
theorem dX8_then_13 : decode cX8_then 13 = .ok (.iconst 2, 1) := by decide +kernel
theorem dX8_then_14 : decode cX8_then 14 = .ok (.invokestatic 32, 3) := by decide +kernel
theorem dX8_then_17 : decode cX8_then 17 = .ok (.ifCond .ne 6, 3) := by decide +kernel
theorem dX8_then_20 : decode cX8_then 20 = .ok (.bipush (-2), 2) := by decide +kernel
theorem dX8_then_22 : decode cX8_then 22 = .ok (.ireturn, 1) := by decide +kernel
theorem dX8_then_23 : decode cX8_then 23 = .ok (.aload_n 0, 1) := by decide +kernel
theorem dX8_then_24 : decode cX8_then 24 = .ok (.getfield 7, 3) := by decide +kernel
theorem dX8_then_27 : decode cX8_then 27 = .ok (.iconst 0, 1) := by decide +kernel
theorem dX8_then_28 : decode cX8_then 28 = .ok (.aload_n 0, 1) := by decide +kernel
theorem dX8_then_29 : decode cX8_then 29 = .ok (.getfield 13, 3) := by decide +kernel
theorem dX8_then_32 : decode cX8_then 32 = .ok (.iconst 0, 1) := by decide +kernel
theorem dX8_then_33 : decode cX8_then 33 = .ok (.invokestatic 40, 3) := by decide +kernel
theorem dX8_then_36 : decode cX8_then 36 = .ok (.aload_n 0, 1) := by decide +kernel
theorem dX8_then_37 : decode cX8_then 37 = .ok (.iload_n 1, 1) := by decide +kernel
theorem dX8_then_38 : decode cX8_then 38 = .ok (.iconst 0, 1) := by decide +kernel
theorem dX8_then_39 : decode cX8_then 39 = .ok (.invokevirtual 148, 3) := by decide +kernel
theorem dX8_then_42 : decode cX8_then 42 = .ok (.iload_n 2, 1) := by decide +kernel
theorem dX8_then_43 : decode cX8_then 43 = .ok (.ifCond .ne 8, 3) := by decide +kernel
theorem dX8_then_46 : decode cX8_then 46 = .ok (.bipush 28, 2) := by decide +kernel
theorem dX8_then_48 : decode cX8_then 48 = .ok (.goto 15, 3) := by decide +kernel
theorem dX8_then_51 : decode cX8_then 51 = .ok (.iload_n 2, 1) := by decide +kernel
theorem dX8_then_52 : decode cX8_then 52 = .ok (.iconst 1, 1) := by decide +kernel
theorem dX8_then_53 : decode cX8_then 53 = .ok (.if_icmp .ne 8, 3) := by decide +kernel
theorem dX8_then_56 : decode cX8_then 56 = .ok (.bipush 27, 2) := by decide +kernel
theorem dX8_then_58 : decode cX8_then 58 = .ok (.goto 5, 3) := by decide +kernel
theorem dX8_then_61 : decode cX8_then 61 = .ok (.bipush 29, 2) := by decide +kernel
theorem dX8_then_63 : decode cX8_then 63 = .ok (.istore_n 3, 1) := by decide +kernel
theorem dX8_then_64 : decode cX8_then 64 = .ok (.aload_n 0, 1) := by decide +kernel
theorem dX8_then_65 : decode cX8_then 65 = .ok (.getfield 13, 3) := by decide +kernel
theorem dX8_then_68 : decode cX8_then 68 = .ok (.iload_n 3, 1) := by decide +kernel
theorem dX8_then_69 : decode cX8_then 69 = .ok (.iaload, 1) := by decide +kernel
theorem dX8_then_70 : decode cX8_then 70 = .ok (.aload_n 0, 1) := by decide +kernel
theorem dX8_then_71 : decode cX8_then 71 = .ok (.getfield 7, 3) := by decide +kernel
theorem dX8_then_74 : decode cX8_then 74 = .ok (.iload_n 3, 1) := by decide +kernel
theorem dX8_then_75 : decode cX8_then 75 = .ok (.iaload, 1) := by decide +kernel
theorem dX8_then_76 : decode cX8_then 76 = .ok (.isub, 1) := by decide +kernel
theorem dX8_then_77 : decode cX8_then 77 = .ok (.ireturn, 1) := by decide +kernel
theorem dX8_leastTrucks_0 : decode cX8_leastTrucks 0 = .ok (.iload_n 1, 1) := by decide +kernel
theorem dX8_leastTrucks_1 : decode cX8_leastTrucks 1 = .ok (.iconst 1, 1) := by decide +kernel
theorem dX8_leastTrucks_2 : decode cX8_leastTrucks 2 = .ok (.sipush 300, 3) := by decide +kernel
theorem dX8_leastTrucks_5 : decode cX8_leastTrucks 5 = .ok (.invokestatic 32, 3) := by decide +kernel
theorem dX8_leastTrucks_8 : decode cX8_leastTrucks 8 = .ok (.ifCond .ne 6, 3) := by decide +kernel
theorem dX8_leastTrucks_11 : decode cX8_leastTrucks 11 = .ok (.bipush (-2), 2) := by decide +kernel
theorem dX8_leastTrucks_13 : decode cX8_leastTrucks 13 = .ok (.ireturn, 1) := by decide +kernel
theorem dX8_leastTrucks_14 : decode cX8_leastTrucks 14 = .ok (.iconst 0, 1) := by decide +kernel
theorem dX8_leastTrucks_15 : decode cX8_leastTrucks 15 = .ok (.istore_n 2, 1) := by decide +kernel
theorem dX8_leastTrucks_16 : decode cX8_leastTrucks 16 = .ok (.iload_n 2, 1) := by decide +kernel
theorem dX8_leastTrucks_17 : decode cX8_leastTrucks 17 = .ok (.bipush 20, 2) := by decide +kernel
theorem dX8_leastTrucks_19 : decode cX8_leastTrucks 19 = .ok (.if_icmp .gt 54, 3) := by decide +kernel
theorem dX8_leastTrucks_22 : decode cX8_leastTrucks 22 = .ok (.aload_n 0, 1) := by decide +kernel
theorem dX8_leastTrucks_23 : decode cX8_leastTrucks 23 = .ok (.getfield 7, 3) := by decide +kernel
theorem dX8_leastTrucks_26 : decode cX8_leastTrucks 26 = .ok (.iconst 0, 1) := by decide +kernel
theorem dX8_leastTrucks_27 : decode cX8_leastTrucks 27 = .ok (.aload_n 0, 1) := by decide +kernel
theorem dX8_leastTrucks_28 : decode cX8_leastTrucks 28 = .ok (.getfield 13, 3) := by decide +kernel
theorem dX8_leastTrucks_31 : decode cX8_leastTrucks 31 = .ok (.iconst 0, 1) := by decide +kernel
theorem dX8_leastTrucks_32 : decode cX8_leastTrucks 32 = .ok (.invokestatic 40, 3) := by decide +kernel
theorem dX8_leastTrucks_35 : decode cX8_leastTrucks 35 = .ok (.aload_n 0, 1) := by decide +kernel
theorem dX8_leastTrucks_36 : decode cX8_leastTrucks 36 = .ok (.getfield 13, 3) := by decide +kernel
theorem dX8_leastTrucks_39 : decode cX8_leastTrucks 39 = .ok (.iconst 3, 1) := by decide +kernel
theorem dX8_leastTrucks_40 : decode cX8_leastTrucks 40 = .ok (.iload_n 2, 1) := by decide +kernel
theorem dX8_leastTrucks_41 : decode cX8_leastTrucks 41 = .ok (.iastore, 1) := by decide +kernel
theorem dX8_leastTrucks_42 : decode cX8_leastTrucks 42 = .ok (.aload_n 0, 1) := by decide +kernel
theorem dX8_leastTrucks_43 : decode cX8_leastTrucks 43 = .ok (.iload_n 1, 1) := by decide +kernel
theorem dX8_leastTrucks_44 : decode cX8_leastTrucks 44 = .ok (.iconst 0, 1) := by decide +kernel
theorem dX8_leastTrucks_45 : decode cX8_leastTrucks 45 = .ok (.invokevirtual 148, 3) := by decide +kernel
theorem dX8_leastTrucks_48 : decode cX8_leastTrucks 48 = .ok (.aload_n 0, 1) := by decide +kernel
theorem dX8_leastTrucks_49 : decode cX8_leastTrucks 49 = .ok (.getfield 13, 3) := by decide +kernel
theorem dX8_leastTrucks_52 : decode cX8_leastTrucks 52 = .ok (.bipush 28, 2) := by decide +kernel
theorem dX8_leastTrucks_54 : decode cX8_leastTrucks 54 = .ok (.iaload, 1) := by decide +kernel
theorem dX8_leastTrucks_55 : decode cX8_leastTrucks 55 = .ok (.aload_n 0, 1) := by decide +kernel
theorem dX8_leastTrucks_56 : decode cX8_leastTrucks 56 = .ok (.getfield 7, 3) := by decide +kernel
theorem dX8_leastTrucks_59 : decode cX8_leastTrucks 59 = .ok (.bipush 28, 2) := by decide +kernel
theorem dX8_leastTrucks_61 : decode cX8_leastTrucks 61 = .ok (.iaload, 1) := by decide +kernel
theorem dX8_leastTrucks_62 : decode cX8_leastTrucks 62 = .ok (.if_icmp .ne 5, 3) := by decide +kernel
theorem dX8_leastTrucks_65 : decode cX8_leastTrucks 65 = .ok (.iload_n 2, 1) := by decide +kernel
theorem dX8_leastTrucks_66 : decode cX8_leastTrucks 66 = .ok (.ireturn, 1) := by decide +kernel
theorem dX8_leastTrucks_67 : decode cX8_leastTrucks 67 = .ok (.iinc 2 1, 3) := by decide +kernel
theorem dX8_leastTrucks_70 : decode cX8_leastTrucks 70 = .ok (.goto (-54), 3) := by decide +kernel
theorem dX8_leastTrucks_73 : decode cX8_leastTrucks 73 = .ok (.bipush (-6), 2) := by decide +kernel
theorem dX8_leastTrucks_75 : decode cX8_leastTrucks 75 = .ok (.ireturn, 1) := by decide +kernel
theorem dX8_stopCosts_0 : decode cX8_stopCosts 0 = .ok (.iload_n 1, 1) := by decide +kernel
theorem dX8_stopCosts_1 : decode cX8_stopCosts 1 = .ok (.iconst 1, 1) := by decide +kernel
theorem dX8_stopCosts_2 : decode cX8_stopCosts 2 = .ok (.sipush 300, 3) := by decide +kernel
theorem dX8_stopCosts_5 : decode cX8_stopCosts 5 = .ok (.invokestatic 32, 3) := by decide +kernel
theorem dX8_stopCosts_8 : decode cX8_stopCosts 8 = .ok (.ifCond .eq 12, 3) := by decide +kernel
theorem dX8_stopCosts_11 : decode cX8_stopCosts 11 = .ok (.iload_n 2, 1) := by decide +kernel
theorem dX8_stopCosts_12 : decode cX8_stopCosts 12 = .ok (.iconst 0, 1) := by decide +kernel
theorem dX8_stopCosts_13 : decode cX8_stopCosts 13 = .ok (.iload_n 1, 1) := by decide +kernel
theorem dX8_stopCosts_14 : decode cX8_stopCosts 14 = .ok (.invokestatic 32, 3) := by decide +kernel
theorem dX8_stopCosts_17 : decode cX8_stopCosts 17 = .ok (.ifCond .ne 6, 3) := by decide +kernel
theorem dX8_stopCosts_20 : decode cX8_stopCosts 20 = .ok (.bipush (-2), 2) := by decide +kernel
theorem dX8_stopCosts_22 : decode cX8_stopCosts 22 = .ok (.ireturn, 1) := by decide +kernel
theorem dX8_stopCosts_23 : decode cX8_stopCosts 23 = .ok (.aload_n 0, 1) := by decide +kernel
theorem dX8_stopCosts_24 : decode cX8_stopCosts 24 = .ok (.getfield 7, 3) := by decide +kernel
theorem dX8_stopCosts_27 : decode cX8_stopCosts 27 = .ok (.iconst 0, 1) := by decide +kernel
theorem dX8_stopCosts_28 : decode cX8_stopCosts 28 = .ok (.aload_n 0, 1) := by decide +kernel
theorem dX8_stopCosts_29 : decode cX8_stopCosts 29 = .ok (.getfield 13, 3) := by decide +kernel
theorem dX8_stopCosts_32 : decode cX8_stopCosts 32 = .ok (.iconst 0, 1) := by decide +kernel
theorem dX8_stopCosts_33 : decode cX8_stopCosts 33 = .ok (.invokestatic 40, 3) := by decide +kernel
theorem dX8_stopCosts_36 : decode cX8_stopCosts 36 = .ok (.aload_n 0, 1) := by decide +kernel
theorem dX8_stopCosts_37 : decode cX8_stopCosts 37 = .ok (.iload_n 1, 1) := by decide +kernel
theorem dX8_stopCosts_38 : decode cX8_stopCosts 38 = .ok (.iconst 0, 1) := by decide +kernel
theorem dX8_stopCosts_39 : decode cX8_stopCosts 39 = .ok (.invokevirtual 148, 3) := by decide +kernel
theorem dX8_stopCosts_42 : decode cX8_stopCosts 42 = .ok (.aload_n 0, 1) := by decide +kernel
theorem dX8_stopCosts_43 : decode cX8_stopCosts 43 = .ok (.getfield 13, 3) := by decide +kernel
theorem dX8_stopCosts_46 : decode cX8_stopCosts 46 = .ok (.bipush 27, 2) := by decide +kernel
theorem dX8_stopCosts_48 : decode cX8_stopCosts 48 = .ok (.iaload, 1) := by decide +kernel
theorem dX8_stopCosts_49 : decode cX8_stopCosts 49 = .ok (.istore_n 3, 1) := by decide +kernel
theorem dX8_stopCosts_50 : decode cX8_stopCosts 50 = .ok (.aload_n 0, 1) := by decide +kernel
theorem dX8_stopCosts_51 : decode cX8_stopCosts 51 = .ok (.getfield 7, 3) := by decide +kernel
theorem dX8_stopCosts_54 : decode cX8_stopCosts 54 = .ok (.iconst 0, 1) := by decide +kernel
theorem dX8_stopCosts_55 : decode cX8_stopCosts 55 = .ok (.aload_n 0, 1) := by decide +kernel
theorem dX8_stopCosts_56 : decode cX8_stopCosts 56 = .ok (.getfield 13, 3) := by decide +kernel
theorem dX8_stopCosts_59 : decode cX8_stopCosts 59 = .ok (.iconst 0, 1) := by decide +kernel
theorem dX8_stopCosts_60 : decode cX8_stopCosts 60 = .ok (.invokestatic 40, 3) := by decide +kernel
theorem dX8_stopCosts_63 : decode cX8_stopCosts 63 = .ok (.aload_n 0, 1) := by decide +kernel
theorem dX8_stopCosts_64 : decode cX8_stopCosts 64 = .ok (.iload_n 1, 1) := by decide +kernel
theorem dX8_stopCosts_65 : decode cX8_stopCosts 65 = .ok (.iload_n 2, 1) := by decide +kernel
theorem dX8_stopCosts_66 : decode cX8_stopCosts 66 = .ok (.invokevirtual 148, 3) := by decide +kernel
theorem dX8_stopCosts_69 : decode cX8_stopCosts 69 = .ok (.iload_n 3, 1) := by decide +kernel
theorem dX8_stopCosts_70 : decode cX8_stopCosts 70 = .ok (.aload_n 0, 1) := by decide +kernel
theorem dX8_stopCosts_71 : decode cX8_stopCosts 71 = .ok (.getfield 13, 3) := by decide +kernel
theorem dX8_stopCosts_74 : decode cX8_stopCosts 74 = .ok (.bipush 27, 2) := by decide +kernel
theorem dX8_stopCosts_76 : decode cX8_stopCosts 76 = .ok (.iaload, 1) := by decide +kernel
theorem dX8_stopCosts_77 : decode cX8_stopCosts 77 = .ok (.isub, 1) := by decide +kernel
theorem dX8_stopCosts_78 : decode cX8_stopCosts 78 = .ok (.ldc 152, 2) := by decide +kernel
theorem dX8_stopCosts_80 : decode cX8_stopCosts 80 = .ok (.iadd, 1) := by decide +kernel
theorem dX8_stopCosts_81 : decode cX8_stopCosts 81 = .ok (.ireturn, 1) := by decide +kernel
theorem dX8_byteOf_0 : decode cX8_byteOf 0 = .ok (.lload_n 0, 1) := by decide +kernel
theorem dX8_byteOf_1 : decode cX8_byteOf 1 = .ok (.bipush 8, 2) := by decide +kernel
theorem dX8_byteOf_3 : decode cX8_byteOf 3 = .ok (.iload_n 2, 1) := by decide +kernel
theorem dX8_byteOf_4 : decode cX8_byteOf 4 = .ok (.imul, 1) := by decide +kernel
theorem dX8_byteOf_5 : decode cX8_byteOf 5 = .ok (.lshr, 1) := by decide +kernel
theorem dX8_byteOf_6 : decode cX8_byteOf 6 = .ok (.ldc2_w 153, 3) := by decide +kernel
theorem dX8_byteOf_9 : decode cX8_byteOf 9 = .ok (.land, 1) := by decide +kernel
theorem dX8_byteOf_10 : decode cX8_byteOf 10 = .ok (.l2i, 1) := by decide +kernel
theorem dX8_byteOf_11 : decode cX8_byteOf 11 = .ok (.ireturn, 1) := by decide +kernel
theorem dX8_toldBy_0 : decode cX8_toldBy 0 = .ok (.iconst 0, 1) := by decide +kernel
theorem dX8_toldBy_1 : decode cX8_toldBy 1 = .ok (.istore_n 2, 1) := by decide +kernel
theorem dX8_toldBy_2 : decode cX8_toldBy 2 = .ok (.iload_n 2, 1) := by decide +kernel
theorem dX8_toldBy_3 : decode cX8_toldBy 3 = .ok (.bipush 8, 2) := by decide +kernel
theorem dX8_toldBy_5 : decode cX8_toldBy 5 = .ok (.if_icmp .ge 35, 3) := by decide +kernel
theorem dX8_toldBy_8 : decode cX8_toldBy 8 = .ok (.lload_n 0, 1) := by decide +kernel
theorem dX8_toldBy_9 : decode cX8_toldBy 9 = .ok (.iload_n 2, 1) := by decide +kernel
theorem dX8_toldBy_10 : decode cX8_toldBy 10 = .ok (.invokestatic 155, 3) := by decide +kernel
theorem dX8_toldBy_13 : decode cX8_toldBy 13 = .ok (.ifCond .eq 27, 3) := by decide +kernel
theorem dX8_toldBy_16 : decode cX8_toldBy 16 = .ok (.lload_n 0, 1) := by decide +kernel
theorem dX8_toldBy_17 : decode cX8_toldBy 17 = .ok (.iload_n 2, 1) := by decide +kernel
theorem dX8_toldBy_18 : decode cX8_toldBy 18 = .ok (.invokestatic 155, 3) := by decide +kernel
theorem dX8_toldBy_21 : decode cX8_toldBy 21 = .ok (.bipush 33, 2) := by decide +kernel
theorem dX8_toldBy_23 : decode cX8_toldBy 23 = .ok (.bipush 126, 2) := by decide +kernel
theorem dX8_toldBy_25 : decode cX8_toldBy 25 = .ok (.invokestatic 32, 3) := by decide +kernel
theorem dX8_toldBy_28 : decode cX8_toldBy 28 = .ok (.ifCond .ne 6, 3) := by decide +kernel
theorem dX8_toldBy_31 : decode cX8_toldBy 31 = .ok (.bipush (-2), 2) := by decide +kernel
theorem dX8_toldBy_33 : decode cX8_toldBy 33 = .ok (.ireturn, 1) := by decide +kernel
theorem dX8_toldBy_34 : decode cX8_toldBy 34 = .ok (.iinc 2 1, 3) := by decide +kernel
theorem dX8_toldBy_37 : decode cX8_toldBy 37 = .ok (.goto (-35), 3) := by decide +kernel
theorem dX8_toldBy_40 : decode cX8_toldBy 40 = .ok (.iload_n 2, 1) := by decide +kernel
theorem dX8_toldBy_41 : decode cX8_toldBy 41 = .ok (.istore_n 3, 1) := by decide +kernel
theorem dX8_toldBy_42 : decode cX8_toldBy 42 = .ok (.iload_n 3, 1) := by decide +kernel
theorem dX8_toldBy_43 : decode cX8_toldBy 43 = .ok (.bipush 8, 2) := by decide +kernel
theorem dX8_toldBy_45 : decode cX8_toldBy 45 = .ok (.if_icmp .ge 20, 3) := by decide +kernel
theorem dX8_toldBy_48 : decode cX8_toldBy 48 = .ok (.lload_n 0, 1) := by decide +kernel
theorem dX8_toldBy_49 : decode cX8_toldBy 49 = .ok (.iload_n 3, 1) := by decide +kernel
theorem dX8_toldBy_50 : decode cX8_toldBy 50 = .ok (.invokestatic 155, 3) := by decide +kernel
theorem dX8_toldBy_53 : decode cX8_toldBy 53 = .ok (.ifCond .eq 6, 3) := by decide +kernel
theorem dX8_toldBy_56 : decode cX8_toldBy 56 = .ok (.bipush (-2), 2) := by decide +kernel
theorem dX8_toldBy_58 : decode cX8_toldBy 58 = .ok (.ireturn, 1) := by decide +kernel
theorem dX8_toldBy_59 : decode cX8_toldBy 59 = .ok (.iinc 3 1, 3) := by decide +kernel
theorem dX8_toldBy_62 : decode cX8_toldBy 62 = .ok (.goto (-20), 3) := by decide +kernel
theorem dX8_toldBy_65 : decode cX8_toldBy 65 = .ok (.iload_n 2, 1) := by decide +kernel
theorem dX8_toldBy_66 : decode cX8_toldBy 66 = .ok (.ifCond .ne 8, 3) := by decide +kernel
theorem dX8_toldBy_69 : decode cX8_toldBy 69 = .ok (.bipush (-2), 2) := by decide +kernel
theorem dX8_toldBy_71 : decode cX8_toldBy 71 = .ok (.goto 4, 3) := by decide +kernel
theorem dX8_toldBy_74 : decode cX8_toldBy 74 = .ok (.iload_n 2, 1) := by decide +kernel
theorem dX8_toldBy_75 : decode cX8_toldBy 75 = .ok (.ireturn, 1) := by decide +kernel
theorem dX8_put_0 : decode cX8_put 0 = .ok (.lload_n 1, 1) := by decide +kernel
theorem dX8_put_1 : decode cX8_put 1 = .ok (.invokestatic 159, 3) := by decide +kernel
theorem dX8_put_4 : decode cX8_put 4 = .ok (.istore_n 3, 1) := by decide +kernel
theorem dX8_put_5 : decode cX8_put 5 = .ok (.iload_n 3, 1) := by decide +kernel
theorem dX8_put_6 : decode cX8_put 6 = .ok (.ifCond .ge 5, 3) := by decide +kernel
theorem dX8_put_9 : decode cX8_put 9 = .ok (.iload_n 3, 1) := by decide +kernel
theorem dX8_put_10 : decode cX8_put 10 = .ok (.ireturn, 1) := by decide +kernel
theorem dX8_put_11 : decode cX8_put 11 = .ok (.aload_n 0, 1) := by decide +kernel
theorem dX8_put_12 : decode cX8_put 12 = .ok (.getfield 143, 3) := by decide +kernel
theorem dX8_put_15 : decode cX8_put 15 = .ok (.iload_n 3, 1) := by decide +kernel
theorem dX8_put_16 : decode cX8_put 16 = .ok (.iadd, 1) := by decide +kernel
theorem dX8_put_17 : decode cX8_put 17 = .ok (.bipush 80, 2) := by decide +kernel
theorem dX8_put_19 : decode cX8_put 19 = .ok (.if_icmp .le 6, 3) := by decide +kernel
theorem dX8_put_22 : decode cX8_put 22 = .ok (.bipush (-4), 2) := by decide +kernel
theorem dX8_put_24 : decode cX8_put 24 = .ok (.ireturn, 1) := by decide +kernel
theorem dX8_put_25 : decode cX8_put 25 = .ok (.iload_n 3, 1) := by decide +kernel
theorem dX8_put_26 : decode cX8_put 26 = .ok (.iconst 1, 1) := by decide +kernel
theorem dX8_put_27 : decode cX8_put 27 = .ok (.isub, 1) := by decide +kernel
theorem dX8_put_28 : decode cX8_put 28 = .ok (.istore 4, 2) := by decide +kernel
theorem dX8_put_30 : decode cX8_put 30 = .ok (.iload 4, 2) := by decide +kernel
theorem dX8_put_32 : decode cX8_put 32 = .ok (.ifCond .lt 34, 3) := by decide +kernel
theorem dX8_put_35 : decode cX8_put 35 = .ok (.aload_n 0, 1) := by decide +kernel
theorem dX8_put_36 : decode cX8_put 36 = .ok (.getfield 26, 3) := by decide +kernel
theorem dX8_put_39 : decode cX8_put 39 = .ok (.aload_n 0, 1) := by decide +kernel
theorem dX8_put_40 : decode cX8_put 40 = .ok (.getfield 143, 3) := by decide +kernel
theorem dX8_put_43 : decode cX8_put 43 = .ok (.lload_n 1, 1) := by decide +kernel
theorem dX8_put_44 : decode cX8_put 44 = .ok (.iload 4, 2) := by decide +kernel
theorem dX8_put_46 : decode cX8_put 46 = .ok (.invokestatic 155, 3) := by decide +kernel
theorem dX8_put_49 : decode cX8_put 49 = .ok (.iastore, 1) := by decide +kernel
theorem dX8_put_50 : decode cX8_put 50 = .ok (.aload_n 0, 1) := by decide +kernel
theorem dX8_put_51 : decode cX8_put 51 = .ok (.dup, 1) := by decide +kernel
theorem dX8_put_52 : decode cX8_put 52 = .ok (.getfield 143, 3) := by decide +kernel
theorem dX8_put_55 : decode cX8_put 55 = .ok (.iconst 1, 1) := by decide +kernel
theorem dX8_put_56 : decode cX8_put 56 = .ok (.iadd, 1) := by decide +kernel
theorem dX8_put_57 : decode cX8_put 57 = .ok (.putfield 143, 3) := by decide +kernel
theorem dX8_put_60 : decode cX8_put 60 = .ok (.iinc 4 (-1), 3) := by decide +kernel
theorem dX8_put_63 : decode cX8_put 63 = .ok (.goto (-33), 3) := by decide +kernel
theorem dX8_put_66 : decode cX8_put 66 = .ok (.aload_n 0, 1) := by decide +kernel
theorem dX8_put_67 : decode cX8_put 67 = .ok (.getfield 143, 3) := by decide +kernel
theorem dX8_put_70 : decode cX8_put 70 = .ok (.ireturn, 1) := by decide +kernel
theorem dX8_wipe_0 : decode cX8_wipe 0 = .ok (.aload_n 0, 1) := by decide +kernel
theorem dX8_wipe_1 : decode cX8_wipe 1 = .ok (.getfield 143, 3) := by decide +kernel
theorem dX8_wipe_4 : decode cX8_wipe 4 = .ok (.istore_n 1, 1) := by decide +kernel
theorem dX8_wipe_5 : decode cX8_wipe 5 = .ok (.aload_n 0, 1) := by decide +kernel
theorem dX8_wipe_6 : decode cX8_wipe 6 = .ok (.iconst 0, 1) := by decide +kernel
theorem dX8_wipe_7 : decode cX8_wipe 7 = .ok (.putfield 143, 3) := by decide +kernel
theorem dX8_wipe_10 : decode cX8_wipe 10 = .ok (.iload_n 1, 1) := by decide +kernel
theorem dX8_wipe_11 : decode cX8_wipe 11 = .ok (.ireturn, 1) := by decide +kernel
theorem dX8_isAt_0 : decode cX8_isAt 0 = .ok (.aload_n 0, 1) := by decide +kernel
theorem dX8_isAt_1 : decode cX8_isAt 1 = .ok (.getfield 163, 3) := by decide +kernel
theorem dX8_isAt_4 : decode cX8_isAt 4 = .ok (.aload_n 0, 1) := by decide +kernel
theorem dX8_isAt_5 : decode cX8_isAt 5 = .ok (.getfield 143, 3) := by decide +kernel
theorem dX8_isAt_8 : decode cX8_isAt 8 = .ok (.if_icmp .ge 24, 3) := by decide +kernel
theorem dX8_isAt_11 : decode cX8_isAt 11 = .ok (.aload_n 0, 1) := by decide +kernel
theorem dX8_isAt_12 : decode cX8_isAt 12 = .ok (.getfield 26, 3) := by decide +kernel
theorem dX8_isAt_15 : decode cX8_isAt 15 = .ok (.aload_n 0, 1) := by decide +kernel
theorem dX8_isAt_16 : decode cX8_isAt 16 = .ok (.getfield 163, 3) := by decide +kernel
theorem dX8_isAt_19 : decode cX8_isAt 19 = .ok (.iaload, 1) := by decide +kernel
theorem dX8_isAt_20 : decode cX8_isAt 20 = .ok (.iload_n 1, 1) := by decide +kernel
theorem dX8_isAt_21 : decode cX8_isAt 21 = .ok (.iload_n 2, 1) := by decide +kernel
theorem dX8_isAt_22 : decode cX8_isAt 22 = .ok (.invokestatic 32, 3) := by decide +kernel
theorem dX8_isAt_25 : decode cX8_isAt 25 = .ok (.ifCond .eq 7, 3) := by decide +kernel
theorem dX8_isAt_28 : decode cX8_isAt 28 = .ok (.iconst 1, 1) := by decide +kernel
theorem dX8_isAt_29 : decode cX8_isAt 29 = .ok (.goto 4, 3) := by decide +kernel
theorem dX8_isAt_32 : decode cX8_isAt 32 = .ok (.iconst 0, 1) := by decide +kernel
theorem dX8_isAt_33 : decode cX8_isAt 33 = .ok (.ireturn, 1) := by decide +kernel
theorem dX8_isSign_0 : decode cX8_isSign 0 = .ok (.aload_n 0, 1) := by decide +kernel
theorem dX8_isSign_1 : decode cX8_isSign 1 = .ok (.iload_n 1, 1) := by decide +kernel
theorem dX8_isSign_2 : decode cX8_isSign 2 = .ok (.iload_n 1, 1) := by decide +kernel

theorem dX0_init_0 : decode cX0_init 0 = .ok (.aload_n 0, 1) := by decide +kernel
theorem dX0_init_1 : decode cX0_init 1 = .ok (.invokespecial 3, 3) := by decide +kernel
theorem dX0_init_4 : decode cX0_init 4 = .ok (.aload_n 0, 1) := by decide +kernel
theorem dX0_init_5 : decode cX0_init 5 = .ok (.bipush 30, 2) := by decide +kernel
theorem dX0_init_7 : decode cX0_init 7 = .ok (.newarray .int, 2) := by decide +kernel
theorem dX0_init_9 : decode cX0_init 9 = .ok (.putfield 9, 3) := by decide +kernel
theorem dX0_init_12 : decode cX0_init 12 = .ok (.aload_n 0, 1) := by decide +kernel
theorem dX0_init_13 : decode cX0_init 13 = .ok (.bipush 30, 2) := by decide +kernel
theorem dX0_init_15 : decode cX0_init 15 = .ok (.newarray .int, 2) := by decide +kernel
theorem dX0_init_17 : decode cX0_init 17 = .ok (.putfield 15, 3) := by decide +kernel
theorem dX0_init_20 : decode cX0_init 20 = .ok (.aload_n 0, 1) := by decide +kernel
theorem dX0_init_21 : decode cX0_init 21 = .ok (.bipush 30, 2) := by decide +kernel
theorem dX0_init_23 : decode cX0_init 23 = .ok (.newarray .int, 2) := by decide +kernel
theorem dX0_init_25 : decode cX0_init 25 = .ok (.putfield 18, 3) := by decide +kernel
theorem dX0_init_28 : decode cX0_init 28 = .ok (.aload_n 0, 1) := by decide +kernel
theorem dX0_init_29 : decode cX0_init 29 = .ok (.bipush 30, 2) := by decide +kernel
theorem dX0_init_31 : decode cX0_init 31 = .ok (.newarray .int, 2) := by decide +kernel
theorem dX0_init_33 : decode cX0_init 33 = .ok (.putfield 21, 3) := by decide +kernel
theorem dX0_init_36 : decode cX0_init 36 = .ok (.aload_n 0, 1) := by decide +kernel
theorem dX0_init_37 : decode cX0_init 37 = .ok (.bipush 30, 2) := by decide +kernel
theorem dX0_init_39 : decode cX0_init 39 = .ok (.newarray .int, 2) := by decide +kernel
theorem dX0_init_41 : decode cX0_init 41 = .ok (.putfield 24, 3) := by decide +kernel
theorem dX0_init_44 : decode cX0_init 44 = .ok (.aload_n 0, 1) := by decide +kernel
theorem dX0_init_45 : decode cX0_init 45 = .ok (.bipush 30, 2) := by decide +kernel
theorem dX0_init_47 : decode cX0_init 47 = .ok (.newarray .int, 2) := by decide +kernel
theorem dX0_init_49 : decode cX0_init 49 = .ok (.putfield 27, 3) := by decide +kernel
theorem dX0_init_52 : decode cX0_init 52 = .ok (.aload_n 0, 1) := by decide +kernel
theorem dX0_init_53 : decode cX0_init 53 = .ok (.bipush 30, 2) := by decide +kernel
theorem dX0_init_55 : decode cX0_init 55 = .ok (.newarray .int, 2) := by decide +kernel
theorem dX0_init_57 : decode cX0_init 57 = .ok (.putfield 30, 3) := by decide +kernel
theorem dX0_init_60 : decode cX0_init 60 = .ok (.aload_n 0, 1) := by decide +kernel
theorem dX0_init_61 : decode cX0_init 61 = .ok (.bipush 30, 2) := by decide +kernel
theorem dX0_init_63 : decode cX0_init 63 = .ok (.newarray .int, 2) := by decide +kernel
theorem dX0_init_65 : decode cX0_init 65 = .ok (.putfield 33, 3) := by decide +kernel
theorem dX0_init_68 : decode cX0_init 68 = .ok (.return_, 1) := by decide +kernel
theorem dX0_copyFrom_0 : decode cX0_copyFrom 0 = .ok (.aload_n 0, 1) := by decide +kernel
theorem dX0_copyFrom_1 : decode cX0_copyFrom 1 = .ok (.aload_n 1, 1) := by decide +kernel
theorem dX0_copyFrom_2 : decode cX0_copyFrom 2 = .ok (.getfield 36, 3) := by decide +kernel
theorem dX0_copyFrom_5 : decode cX0_copyFrom 5 = .ok (.putfield 36, 3) := by decide +kernel
theorem dX0_copyFrom_8 : decode cX0_copyFrom 8 = .ok (.aload_n 1, 1) := by decide +kernel
theorem dX0_copyFrom_9 : decode cX0_copyFrom 9 = .ok (.getfield 9, 3) := by decide +kernel
theorem dX0_copyFrom_12 : decode cX0_copyFrom 12 = .ok (.aload_n 0, 1) := by decide +kernel
theorem dX0_copyFrom_13 : decode cX0_copyFrom 13 = .ok (.getfield 9, 3) := by decide +kernel
theorem dX0_copyFrom_16 : decode cX0_copyFrom 16 = .ok (.aload_n 0, 1) := by decide +kernel
theorem dX0_copyFrom_17 : decode cX0_copyFrom 17 = .ok (.getfield 36, 3) := by decide +kernel
theorem dX0_copyFrom_20 : decode cX0_copyFrom 20 = .ok (.invokestatic 40, 3) := by decide +kernel
theorem dX0_copyFrom_23 : decode cX0_copyFrom 23 = .ok (.aload_n 1, 1) := by decide +kernel
theorem dX0_copyFrom_24 : decode cX0_copyFrom 24 = .ok (.getfield 15, 3) := by decide +kernel
theorem dX0_copyFrom_27 : decode cX0_copyFrom 27 = .ok (.aload_n 0, 1) := by decide +kernel
theorem dX0_copyFrom_28 : decode cX0_copyFrom 28 = .ok (.getfield 15, 3) := by decide +kernel
theorem dX0_copyFrom_31 : decode cX0_copyFrom 31 = .ok (.aload_n 0, 1) := by decide +kernel
theorem dX0_copyFrom_32 : decode cX0_copyFrom 32 = .ok (.getfield 36, 3) := by decide +kernel
theorem dX0_copyFrom_35 : decode cX0_copyFrom 35 = .ok (.invokestatic 40, 3) := by decide +kernel
theorem dX0_copyFrom_38 : decode cX0_copyFrom 38 = .ok (.aload_n 1, 1) := by decide +kernel
theorem dX0_copyFrom_39 : decode cX0_copyFrom 39 = .ok (.getfield 18, 3) := by decide +kernel
theorem dX0_copyFrom_42 : decode cX0_copyFrom 42 = .ok (.aload_n 0, 1) := by decide +kernel
theorem dX0_copyFrom_43 : decode cX0_copyFrom 43 = .ok (.getfield 18, 3) := by decide +kernel
theorem dX0_copyFrom_46 : decode cX0_copyFrom 46 = .ok (.aload_n 0, 1) := by decide +kernel
theorem dX0_copyFrom_47 : decode cX0_copyFrom 47 = .ok (.getfield 36, 3) := by decide +kernel
theorem dX0_copyFrom_50 : decode cX0_copyFrom 50 = .ok (.invokestatic 40, 3) := by decide +kernel
theorem dX0_copyFrom_53 : decode cX0_copyFrom 53 = .ok (.aload_n 1, 1) := by decide +kernel
theorem dX0_copyFrom_54 : decode cX0_copyFrom 54 = .ok (.getfield 21, 3) := by decide +kernel
theorem dX0_copyFrom_57 : decode cX0_copyFrom 57 = .ok (.aload_n 0, 1) := by decide +kernel
theorem dX0_copyFrom_58 : decode cX0_copyFrom 58 = .ok (.getfield 21, 3) := by decide +kernel
theorem dX0_copyFrom_61 : decode cX0_copyFrom 61 = .ok (.aload_n 0, 1) := by decide +kernel
theorem dX0_copyFrom_62 : decode cX0_copyFrom 62 = .ok (.getfield 36, 3) := by decide +kernel
theorem dX0_copyFrom_65 : decode cX0_copyFrom 65 = .ok (.invokestatic 40, 3) := by decide +kernel
theorem dX0_copyFrom_68 : decode cX0_copyFrom 68 = .ok (.aload_n 1, 1) := by decide +kernel
theorem dX0_copyFrom_69 : decode cX0_copyFrom 69 = .ok (.getfield 24, 3) := by decide +kernel
theorem dX0_copyFrom_72 : decode cX0_copyFrom 72 = .ok (.aload_n 0, 1) := by decide +kernel
theorem dX0_copyFrom_73 : decode cX0_copyFrom 73 = .ok (.getfield 24, 3) := by decide +kernel
theorem dX0_copyFrom_76 : decode cX0_copyFrom 76 = .ok (.aload_n 0, 1) := by decide +kernel
theorem dX0_copyFrom_77 : decode cX0_copyFrom 77 = .ok (.getfield 36, 3) := by decide +kernel
theorem dX0_copyFrom_80 : decode cX0_copyFrom 80 = .ok (.invokestatic 40, 3) := by decide +kernel
theorem dX0_copyFrom_83 : decode cX0_copyFrom 83 = .ok (.aload_n 1, 1) := by decide +kernel
theorem dX0_copyFrom_84 : decode cX0_copyFrom 84 = .ok (.getfield 27, 3) := by decide +kernel
theorem dX0_copyFrom_87 : decode cX0_copyFrom 87 = .ok (.aload_n 0, 1) := by decide +kernel
theorem dX0_copyFrom_88 : decode cX0_copyFrom 88 = .ok (.getfield 27, 3) := by decide +kernel
theorem dX0_copyFrom_91 : decode cX0_copyFrom 91 = .ok (.aload_n 0, 1) := by decide +kernel
theorem dX0_copyFrom_92 : decode cX0_copyFrom 92 = .ok (.getfield 36, 3) := by decide +kernel
theorem dX0_copyFrom_95 : decode cX0_copyFrom 95 = .ok (.invokestatic 40, 3) := by decide +kernel
theorem dX0_copyFrom_98 : decode cX0_copyFrom 98 = .ok (.aload_n 1, 1) := by decide +kernel
theorem dX0_copyFrom_99 : decode cX0_copyFrom 99 = .ok (.getfield 30, 3) := by decide +kernel
theorem dX0_copyFrom_102 : decode cX0_copyFrom 102 = .ok (.aload_n 0, 1) := by decide +kernel
theorem dX0_copyFrom_103 : decode cX0_copyFrom 103 = .ok (.getfield 30, 3) := by decide +kernel
theorem dX0_copyFrom_106 : decode cX0_copyFrom 106 = .ok (.aload_n 0, 1) := by decide +kernel
theorem dX0_copyFrom_107 : decode cX0_copyFrom 107 = .ok (.getfield 36, 3) := by decide +kernel
theorem dX0_copyFrom_110 : decode cX0_copyFrom 110 = .ok (.invokestatic 40, 3) := by decide +kernel
theorem dX0_copyFrom_113 : decode cX0_copyFrom 113 = .ok (.aload_n 1, 1) := by decide +kernel
theorem dX0_copyFrom_114 : decode cX0_copyFrom 114 = .ok (.getfield 33, 3) := by decide +kernel
theorem dX0_copyFrom_117 : decode cX0_copyFrom 117 = .ok (.aload_n 0, 1) := by decide +kernel
theorem dX0_copyFrom_118 : decode cX0_copyFrom 118 = .ok (.getfield 33, 3) := by decide +kernel
theorem dX0_copyFrom_121 : decode cX0_copyFrom 121 = .ok (.aload_n 0, 1) := by decide +kernel
theorem dX0_copyFrom_122 : decode cX0_copyFrom 122 = .ok (.getfield 36, 3) := by decide +kernel
theorem dX0_copyFrom_125 : decode cX0_copyFrom 125 = .ok (.invokestatic 40, 3) := by decide +kernel
theorem dX0_copyFrom_128 : decode cX0_copyFrom 128 = .ok (.return_, 1) := by decide +kernel
theorem dX0_append_0 : decode cX0_append 0 = .ok (.aload_n 0, 1) := by decide +kernel
theorem dX0_append_1 : decode cX0_append 1 = .ok (.getfield 36, 3) := by decide +kernel
theorem dX0_append_4 : decode cX0_append 4 = .ok (.bipush 30, 2) := by decide +kernel
theorem dX0_append_6 : decode cX0_append 6 = .ok (.if_icmp .lt 6, 3) := by decide +kernel
theorem dX0_append_9 : decode cX0_append 9 = .ok (.bipush (-4), 2) := by decide +kernel
theorem dX0_append_11 : decode cX0_append 11 = .ok (.ireturn, 1) := by decide +kernel
theorem dX0_append_12 : decode cX0_append 12 = .ok (.aload_n 0, 1) := by decide +kernel
theorem dX0_append_13 : decode cX0_append 13 = .ok (.getfield 36, 3) := by decide +kernel
theorem dX0_append_16 : decode cX0_append 16 = .ok (.istore 5, 2) := by decide +kernel
theorem dX0_append_18 : decode cX0_append 18 = .ok (.aload_n 0, 1) := by decide +kernel
theorem dX0_append_19 : decode cX0_append 19 = .ok (.getfield 9, 3) := by decide +kernel
theorem dX0_append_22 : decode cX0_append 22 = .ok (.iload 5, 2) := by decide +kernel
theorem dX0_append_24 : decode cX0_append 24 = .ok (.iload_n 1, 1) := by decide +kernel
theorem dX0_append_25 : decode cX0_append 25 = .ok (.iastore, 1) := by decide +kernel
theorem dX0_append_26 : decode cX0_append 26 = .ok (.aload_n 0, 1) := by decide +kernel
theorem dX0_append_27 : decode cX0_append 27 = .ok (.getfield 15, 3) := by decide +kernel
theorem dX0_append_30 : decode cX0_append 30 = .ok (.iload 5, 2) := by decide +kernel
theorem dX0_append_32 : decode cX0_append 32 = .ok (.iload_n 2, 1) := by decide +kernel
theorem dX0_append_33 : decode cX0_append 33 = .ok (.iastore, 1) := by decide +kernel
theorem dX0_append_34 : decode cX0_append 34 = .ok (.aload_n 0, 1) := by decide +kernel
theorem dX0_append_35 : decode cX0_append 35 = .ok (.getfield 18, 3) := by decide +kernel
theorem dX0_append_38 : decode cX0_append 38 = .ok (.iload 5, 2) := by decide +kernel
theorem dX0_append_40 : decode cX0_append 40 = .ok (.iload_n 3, 1) := by decide +kernel
theorem dX0_append_41 : decode cX0_append 41 = .ok (.iastore, 1) := by decide +kernel
theorem dX0_append_42 : decode cX0_append 42 = .ok (.aload_n 0, 1) := by decide +kernel
theorem dX0_append_43 : decode cX0_append 43 = .ok (.getfield 21, 3) := by decide +kernel
theorem dX0_append_46 : decode cX0_append 46 = .ok (.iload 5, 2) := by decide +kernel
theorem dX0_append_48 : decode cX0_append 48 = .ok (.iload 4, 2) := by decide +kernel
theorem dX0_append_50 : decode cX0_append 50 = .ok (.iastore, 1) := by decide +kernel
theorem dX0_append_51 : decode cX0_append 51 = .ok (.aload_n 0, 1) := by decide +kernel
theorem dX0_append_52 : decode cX0_append 52 = .ok (.getfield 24, 3) := by decide +kernel
theorem dX0_append_55 : decode cX0_append 55 = .ok (.iload 5, 2) := by decide +kernel
theorem dX0_append_57 : decode cX0_append 57 = .ok (.iload_n 2, 1) := by decide +kernel
theorem dX0_append_58 : decode cX0_append 58 = .ok (.iastore, 1) := by decide +kernel
theorem dX0_append_59 : decode cX0_append 59 = .ok (.aload_n 0, 1) := by decide +kernel
theorem dX0_append_60 : decode cX0_append 60 = .ok (.getfield 27, 3) := by decide +kernel
theorem dX0_append_63 : decode cX0_append 63 = .ok (.iload 5, 2) := by decide +kernel
theorem dX0_append_65 : decode cX0_append 65 = .ok (.iconst 0, 1) := by decide +kernel
theorem dX0_append_66 : decode cX0_append 66 = .ok (.iastore, 1) := by decide +kernel
theorem dX0_append_67 : decode cX0_append 67 = .ok (.aload_n 0, 1) := by decide +kernel
theorem dX0_append_68 : decode cX0_append 68 = .ok (.getfield 30, 3) := by decide +kernel
theorem dX0_append_71 : decode cX0_append 71 = .ok (.iload 5, 2) := by decide +kernel
theorem dX0_append_73 : decode cX0_append 73 = .ok (.iconst 0, 1) := by decide +kernel
theorem dX0_append_74 : decode cX0_append 74 = .ok (.iastore, 1) := by decide +kernel
theorem dX0_append_75 : decode cX0_append 75 = .ok (.aload_n 0, 1) := by decide +kernel
theorem dX0_append_76 : decode cX0_append 76 = .ok (.getfield 33, 3) := by decide +kernel
theorem dX0_append_79 : decode cX0_append 79 = .ok (.iload 5, 2) := by decide +kernel
theorem dX0_append_81 : decode cX0_append 81 = .ok (.iconst 0, 1) := by decide +kernel
theorem dX0_append_82 : decode cX0_append 82 = .ok (.iastore, 1) := by decide +kernel
theorem dX0_append_83 : decode cX0_append 83 = .ok (.aload_n 0, 1) := by decide +kernel
theorem dX0_append_84 : decode cX0_append 84 = .ok (.dup, 1) := by decide +kernel
theorem dX0_append_85 : decode cX0_append 85 = .ok (.getfield 36, 3) := by decide +kernel
theorem dX0_append_88 : decode cX0_append 88 = .ok (.iconst 1, 1) := by decide +kernel
theorem dX0_append_89 : decode cX0_append 89 = .ok (.iadd, 1) := by decide +kernel
theorem dX0_append_90 : decode cX0_append 90 = .ok (.putfield 36, 3) := by decide +kernel
theorem dX0_append_93 : decode cX0_append 93 = .ok (.iload 5, 2) := by decide +kernel
theorem dX0_append_95 : decode cX0_append 95 = .ok (.ireturn, 1) := by decide +kernel
theorem dX0_howItIs_0 : decode cX0_howItIs 0 = .ok (.iload_n 2, 1) := by decide +kernel
theorem dX0_howItIs_1 : decode cX0_howItIs 1 = .ok (.aload_n 0, 1) := by decide +kernel
theorem dX0_howItIs_2 : decode cX0_howItIs 2 = .ok (.getfield 21, 3) := by decide +kernel
theorem dX0_howItIs_5 : decode cX0_howItIs 5 = .ok (.iload_n 1, 1) := by decide +kernel
theorem dX0_howItIs_6 : decode cX0_howItIs 6 = .ok (.iaload, 1) := by decide +kernel
theorem dX0_howItIs_7 : decode cX0_howItIs 7 = .ok (.if_icmp .ge 5, 3) := by decide +kernel
theorem dX0_howItIs_10 : decode cX0_howItIs 10 = .ok (.iconst 0, 1) := by decide +kernel
theorem dX0_howItIs_11 : decode cX0_howItIs 11 = .ok (.ireturn, 1) := by decide +kernel
theorem dX0_howItIs_12 : decode cX0_howItIs 12 = .ok (.aload_n 0, 1) := by decide +kernel
theorem dX0_howItIs_13 : decode cX0_howItIs 13 = .ok (.getfield 24, 3) := by decide +kernel
theorem dX0_howItIs_16 : decode cX0_howItIs 16 = .ok (.iload_n 1, 1) := by decide +kernel
theorem dX0_howItIs_17 : decode cX0_howItIs 17 = .ok (.iaload, 1) := by decide +kernel
theorem dX0_howItIs_18 : decode cX0_howItIs 18 = .ok (.ifCond .le 5, 3) := by decide +kernel
theorem dX0_howItIs_21 : decode cX0_howItIs 21 = .ok (.iconst 1, 1) := by decide +kernel
theorem dX0_howItIs_22 : decode cX0_howItIs 22 = .ok (.ireturn, 1) := by decide +kernel
theorem dX0_howItIs_23 : decode cX0_howItIs 23 = .ok (.aload_n 0, 1) := by decide +kernel
theorem dX0_howItIs_24 : decode cX0_howItIs 24 = .ok (.getfield 33, 3) := by decide +kernel
theorem dX0_howItIs_27 : decode cX0_howItIs 27 = .ok (.iload_n 1, 1) := by decide +kernel
theorem dX0_howItIs_28 : decode cX0_howItIs 28 = .ok (.iaload, 1) := by decide +kernel
theorem dX0_howItIs_29 : decode cX0_howItIs 29 = .ok (.ifCond .le 7, 3) := by decide +kernel
theorem dX0_howItIs_32 : decode cX0_howItIs 32 = .ok (.iconst 3, 1) := by decide +kernel
theorem dX0_howItIs_33 : decode cX0_howItIs 33 = .ok (.goto 4, 3) := by decide +kernel
theorem dX0_howItIs_36 : decode cX0_howItIs 36 = .ok (.iconst 2, 1) := by decide +kernel
theorem dX0_howItIs_37 : decode cX0_howItIs 37 = .ok (.ireturn, 1) := by decide +kernel
theorem dX0_loseCane_0 : decode cX0_loseCane 0 = .ok (.aload_n 0, 1) := by decide +kernel
theorem dX0_loseCane_1 : decode cX0_loseCane 1 = .ok (.getfield 24, 3) := by decide +kernel
theorem dX0_loseCane_4 : decode cX0_loseCane 4 = .ok (.iload_n 1, 1) := by decide +kernel
theorem dX0_loseCane_5 : decode cX0_loseCane 5 = .ok (.iaload, 1) := by decide +kernel
theorem dX0_loseCane_6 : decode cX0_loseCane 6 = .ok (.istore_n 2, 1) := by decide +kernel
theorem dX0_loseCane_7 : decode cX0_loseCane 7 = .ok (.aload_n 0, 1) := by decide +kernel
theorem dX0_loseCane_8 : decode cX0_loseCane 8 = .ok (.getfield 33, 3) := by decide +kernel
theorem dX0_loseCane_11 : decode cX0_loseCane 11 = .ok (.iload_n 1, 1) := by decide +kernel
theorem dX0_loseCane_12 : decode cX0_loseCane 12 = .ok (.dup2, 1) := by decide +kernel
theorem dX0_loseCane_13 : decode cX0_loseCane 13 = .ok (.iaload, 1) := by decide +kernel
theorem dX0_loseCane_14 : decode cX0_loseCane 14 = .ok (.iload_n 2, 1) := by decide +kernel
theorem dX0_loseCane_15 : decode cX0_loseCane 15 = .ok (.iadd, 1) := by decide +kernel
theorem dX0_loseCane_16 : decode cX0_loseCane 16 = .ok (.iastore, 1) := by decide +kernel
theorem dX0_loseCane_17 : decode cX0_loseCane 17 = .ok (.aload_n 0, 1) := by decide +kernel
theorem dX0_loseCane_18 : decode cX0_loseCane 18 = .ok (.getfield 24, 3) := by decide +kernel
theorem dX0_loseCane_21 : decode cX0_loseCane 21 = .ok (.iload_n 1, 1) := by decide +kernel
theorem dX0_loseCane_22 : decode cX0_loseCane 22 = .ok (.iconst 0, 1) := by decide +kernel
theorem dX0_loseCane_23 : decode cX0_loseCane 23 = .ok (.iastore, 1) := by decide +kernel
theorem dX0_loseCane_24 : decode cX0_loseCane 24 = .ok (.iload_n 2, 1) := by decide +kernel
theorem dX0_loseCane_25 : decode cX0_loseCane 25 = .ok (.ireturn, 1) := by decide +kernel
theorem dX0_purityOn_0 : decode cX0_purityOn 0 = .ok (.iconst 0, 1) := by decide +kernel
theorem dX0_purityOn_1 : decode cX0_purityOn 1 = .ok (.iload_n 2, 1) := by decide +kernel
theorem dX0_purityOn_2 : decode cX0_purityOn 2 = .ok (.aload_n 0, 1) := by decide +kernel
theorem dX0_purityOn_3 : decode cX0_purityOn 3 = .ok (.getfield 21, 3) := by decide +kernel
theorem dX0_purityOn_6 : decode cX0_purityOn 6 = .ok (.iload_n 1, 1) := by decide +kernel
theorem dX0_purityOn_7 : decode cX0_purityOn 7 = .ok (.iaload, 1) := by decide +kernel
theorem dX0_purityOn_8 : decode cX0_purityOn 8 = .ok (.isub, 1) := by decide +kernel
theorem dX0_purityOn_9 : decode cX0_purityOn 9 = .ok (.invokestatic 44, 3) := by decide +kernel
theorem dX0_purityOn_12 : decode cX0_purityOn 12 = .ok (.istore 4, 2) := by decide +kernel
theorem dX0_purityOn_14 : decode cX0_purityOn 14 = .ok (.iconst 0, 1) := by decide +kernel
theorem dX0_purityOn_15 : decode cX0_purityOn 15 = .ok (.aload_n 0, 1) := by decide +kernel
theorem dX0_purityOn_16 : decode cX0_purityOn 16 = .ok (.getfield 18, 3) := by decide +kernel
theorem dX0_purityOn_19 : decode cX0_purityOn 19 = .ok (.iload_n 1, 1) := by decide +kernel
theorem dX0_purityOn_20 : decode cX0_purityOn 20 = .ok (.iaload, 1) := by decide +kernel
theorem dX0_purityOn_21 : decode cX0_purityOn 21 = .ok (.iload_n 3, 1) := by decide +kernel
theorem dX0_purityOn_22 : decode cX0_purityOn 22 = .ok (.iload 4, 2) := by decide +kernel
theorem dX0_purityOn_24 : decode cX0_purityOn 24 = .ok (.imul, 1) := by decide +kernel
theorem dX0_purityOn_25 : decode cX0_purityOn 25 = .ok (.isub, 1) := by decide +kernel
theorem dX0_purityOn_26 : decode cX0_purityOn 26 = .ok (.invokestatic 44, 3) := by decide +kernel
theorem dX0_purityOn_29 : decode cX0_purityOn 29 = .ok (.ireturn, 1) := by decide +kernel
theorem dX0_burntCaneOf_0 : decode cX0_burntCaneOf 0 = .ok (.iconst 0, 1) := by decide +kernel
theorem dX0_burntCaneOf_1 : decode cX0_burntCaneOf 1 = .ok (.istore_n 3, 1) := by decide +kernel
theorem dX0_burntCaneOf_2 : decode cX0_burntCaneOf 2 = .ok (.iconst 0, 1) := by decide +kernel
theorem dX0_burntCaneOf_3 : decode cX0_burntCaneOf 3 = .ok (.istore 4, 2) := by decide +kernel
theorem dX0_burntCaneOf_5 : decode cX0_burntCaneOf 5 = .ok (.iload 4, 2) := by decide +kernel
theorem dX0_burntCaneOf_7 : decode cX0_burntCaneOf 7 = .ok (.aload_n 0, 1) := by decide +kernel
theorem dX0_burntCaneOf_8 : decode cX0_burntCaneOf 8 = .ok (.getfield 36, 3) := by decide +kernel
theorem dX0_burntCaneOf_11 : decode cX0_burntCaneOf 11 = .ok (.if_icmp .ge 41, 3) := by decide +kernel
theorem dX0_burntCaneOf_14 : decode cX0_burntCaneOf 14 = .ok (.aload_n 0, 1) := by decide +kernel
theorem dX0_burntCaneOf_15 : decode cX0_burntCaneOf 15 = .ok (.getfield 9, 3) := by decide +kernel
theorem dX0_burntCaneOf_18 : decode cX0_burntCaneOf 18 = .ok (.iload 4, 2) := by decide +kernel
theorem dX0_burntCaneOf_20 : decode cX0_burntCaneOf 20 = .ok (.iaload, 1) := by decide +kernel
theorem dX0_burntCaneOf_21 : decode cX0_burntCaneOf 21 = .ok (.iload_n 1, 1) := by decide +kernel
theorem dX0_burntCaneOf_22 : decode cX0_burntCaneOf 22 = .ok (.if_icmp .ne 24, 3) := by decide +kernel
theorem dX0_burntCaneOf_25 : decode cX0_burntCaneOf 25 = .ok (.aload_n 0, 1) := by decide +kernel
theorem dX0_burntCaneOf_26 : decode cX0_burntCaneOf 26 = .ok (.iload 4, 2) := by decide +kernel
theorem dX0_burntCaneOf_28 : decode cX0_burntCaneOf 28 = .ok (.iload_n 2, 1) := by decide +kernel
theorem dX0_burntCaneOf_29 : decode cX0_burntCaneOf 29 = .ok (.invokevirtual 50, 3) := by decide +kernel
theorem dX0_burntCaneOf_32 : decode cX0_burntCaneOf 32 = .ok (.iconst 1, 1) := by decide +kernel
theorem dX0_burntCaneOf_33 : decode cX0_burntCaneOf 33 = .ok (.if_icmp .ne 13, 3) := by decide +kernel
theorem dX0_burntCaneOf_36 : decode cX0_burntCaneOf 36 = .ok (.iload_n 3, 1) := by decide +kernel
theorem dX0_burntCaneOf_37 : decode cX0_burntCaneOf 37 = .ok (.aload_n 0, 1) := by decide +kernel
theorem dX0_burntCaneOf_38 : decode cX0_burntCaneOf 38 = .ok (.getfield 24, 3) := by decide +kernel
theorem dX0_burntCaneOf_41 : decode cX0_burntCaneOf 41 = .ok (.iload 4, 2) := by decide +kernel
theorem dX0_burntCaneOf_43 : decode cX0_burntCaneOf 43 = .ok (.iaload, 1) := by decide +kernel
theorem dX0_burntCaneOf_44 : decode cX0_burntCaneOf 44 = .ok (.iadd, 1) := by decide +kernel
theorem dX0_burntCaneOf_45 : decode cX0_burntCaneOf 45 = .ok (.istore_n 3, 1) := by decide +kernel
theorem dX0_burntCaneOf_46 : decode cX0_burntCaneOf 46 = .ok (.iinc 4 1, 3) := by decide +kernel
theorem dX0_burntCaneOf_49 : decode cX0_burntCaneOf 49 = .ok (.goto (-44), 3) := by decide +kernel
theorem dX0_burntCaneOf_52 : decode cX0_burntCaneOf 52 = .ok (.iload_n 3, 1) := by decide +kernel
theorem dX0_burntCaneOf_53 : decode cX0_burntCaneOf 53 = .ok (.ireturn, 1) := by decide +kernel
theorem dX0_setOf_0 : decode cX0_setOf 0 = .ok (.lconst 0, 1) := by decide +kernel
theorem dX0_setOf_1 : decode cX0_setOf 1 = .ok (.lstore_n 3, 1) := by decide +kernel
theorem dX0_setOf_2 : decode cX0_setOf 2 = .ok (.iconst 0, 1) := by decide +kernel
theorem dX0_setOf_3 : decode cX0_setOf 3 = .ok (.istore 5, 2) := by decide +kernel
theorem dX0_setOf_5 : decode cX0_setOf 5 = .ok (.iload 5, 2) := by decide +kernel
theorem dX0_setOf_7 : decode cX0_setOf 7 = .ok (.aload_n 0, 1) := by decide +kernel
theorem dX0_setOf_8 : decode cX0_setOf 8 = .ok (.getfield 36, 3) := by decide +kernel
theorem dX0_setOf_11 : decode cX0_setOf 11 = .ok (.if_icmp .ge 27, 3) := by decide +kernel
theorem dX0_setOf_14 : decode cX0_setOf 14 = .ok (.aload_n 0, 1) := by decide +kernel
theorem dX0_setOf_15 : decode cX0_setOf 15 = .ok (.iload 5, 2) := by decide +kernel
theorem dX0_setOf_17 : decode cX0_setOf 17 = .ok (.iload_n 2, 1) := by decide +kernel
theorem dX0_setOf_18 : decode cX0_setOf 18 = .ok (.invokevirtual 50, 3) := by decide +kernel
theorem dX0_setOf_21 : decode cX0_setOf 21 = .ok (.iload_n 1, 1) := by decide +kernel
theorem dX0_setOf_22 : decode cX0_setOf 22 = .ok (.if_icmp .ne 10, 3) := by decide +kernel
theorem dX0_setOf_25 : decode cX0_setOf 25 = .ok (.lload_n 3, 1) := by decide +kernel
theorem dX0_setOf_26 : decode cX0_setOf 26 = .ok (.lconst 1, 1) := by decide +kernel
theorem dX0_setOf_27 : decode cX0_setOf 27 = .ok (.iload 5, 2) := by decide +kernel
theorem dX0_setOf_29 : decode cX0_setOf 29 = .ok (.lshl, 1) := by decide +kernel
theorem dX0_setOf_30 : decode cX0_setOf 30 = .ok (.lor, 1) := by decide +kernel
theorem dX0_setOf_31 : decode cX0_setOf 31 = .ok (.lstore_n 3, 1) := by decide +kernel
theorem dX0_setOf_32 : decode cX0_setOf 32 = .ok (.iinc 5 1, 3) := by decide +kernel
theorem dX0_setOf_35 : decode cX0_setOf 35 = .ok (.goto (-30), 3) := by decide +kernel
theorem dX0_setOf_38 : decode cX0_setOf 38 = .ok (.lload_n 3, 1) := by decide +kernel
theorem dX0_setOf_39 : decode cX0_setOf 39 = .ok (.lreturn, 1) := by decide +kernel
theorem dX1_init_0 : decode cX1_init 0 = .ok (.aload_n 0, 1) := by decide +kernel
theorem dX1_init_1 : decode cX1_init 1 = .ok (.invokespecial 3, 3) := by decide +kernel
theorem dX1_init_4 : decode cX1_init 4 = .ok (.aload_n 0, 1) := by decide +kernel
theorem dX1_init_5 : decode cX1_init 5 = .ok (.bipush 6, 2) := by decide +kernel
theorem dX1_init_7 : decode cX1_init 7 = .ok (.newarray .int, 2) := by decide +kernel
theorem dX1_init_9 : decode cX1_init 9 = .ok (.dup, 1) := by decide +kernel
theorem dX1_init_10 : decode cX1_init 10 = .ok (.iconst 0, 1) := by decide +kernel
theorem dX1_init_11 : decode cX1_init 11 = .ok (.bipush 100, 2) := by decide +kernel
theorem dX1_init_13 : decode cX1_init 13 = .ok (.iastore, 1) := by decide +kernel
theorem dX1_init_14 : decode cX1_init 14 = .ok (.dup, 1) := by decide +kernel
theorem dX1_init_15 : decode cX1_init 15 = .ok (.iconst 1, 1) := by decide +kernel
theorem dX1_init_16 : decode cX1_init 16 = .ok (.bipush 100, 2) := by decide +kernel
theorem dX1_init_18 : decode cX1_init 18 = .ok (.iastore, 1) := by decide +kernel
theorem dX1_init_19 : decode cX1_init 19 = .ok (.dup, 1) := by decide +kernel
theorem dX1_init_20 : decode cX1_init 20 = .ok (.iconst 2, 1) := by decide +kernel
theorem dX1_init_21 : decode cX1_init 21 = .ok (.bipush 100, 2) := by decide +kernel
theorem dX1_init_23 : decode cX1_init 23 = .ok (.iastore, 1) := by decide +kernel
theorem dX1_init_24 : decode cX1_init 24 = .ok (.dup, 1) := by decide +kernel
theorem dX1_init_25 : decode cX1_init 25 = .ok (.iconst 3, 1) := by decide +kernel
theorem dX1_init_26 : decode cX1_init 26 = .ok (.bipush 100, 2) := by decide +kernel
theorem dX1_init_28 : decode cX1_init 28 = .ok (.iastore, 1) := by decide +kernel
theorem dX1_init_29 : decode cX1_init 29 = .ok (.dup, 1) := by decide +kernel
theorem dX1_init_30 : decode cX1_init 30 = .ok (.iconst 4, 1) := by decide +kernel
theorem dX1_init_31 : decode cX1_init 31 = .ok (.bipush 100, 2) := by decide +kernel
theorem dX1_init_33 : decode cX1_init 33 = .ok (.iastore, 1) := by decide +kernel
theorem dX1_init_34 : decode cX1_init 34 = .ok (.dup, 1) := by decide +kernel
theorem dX1_init_35 : decode cX1_init 35 = .ok (.iconst 5, 1) := by decide +kernel
theorem dX1_init_36 : decode cX1_init 36 = .ok (.bipush 100, 2) := by decide +kernel
theorem dX1_init_38 : decode cX1_init 38 = .ok (.iastore, 1) := by decide +kernel
theorem dX1_init_39 : decode cX1_init 39 = .ok (.putfield 9, 3) := by decide +kernel
theorem dX1_init_42 : decode cX1_init 42 = .ok (.aload_n 0, 1) := by decide +kernel
theorem dX1_init_43 : decode cX1_init 43 = .ok (.bipush 6, 2) := by decide +kernel
theorem dX1_init_45 : decode cX1_init 45 = .ok (.newarray .int, 2) := by decide +kernel
theorem dX1_init_47 : decode cX1_init 47 = .ok (.putfield 15, 3) := by decide +kernel
theorem dX1_init_50 : decode cX1_init 50 = .ok (.aload_n 0, 1) := by decide +kernel
theorem dX1_init_51 : decode cX1_init 51 = .ok (.bipush 6, 2) := by decide +kernel
theorem dX1_init_53 : decode cX1_init 53 = .ok (.newarray .int, 2) := by decide +kernel
theorem dX1_init_55 : decode cX1_init 55 = .ok (.putfield 18, 3) := by decide +kernel
theorem dX1_init_58 : decode cX1_init 58 = .ok (.aload_n 0, 1) := by decide +kernel
theorem dX1_init_59 : decode cX1_init 59 = .ok (.bipush 6, 2) := by decide +kernel
theorem dX1_init_61 : decode cX1_init 61 = .ok (.newarray .int, 2) := by decide +kernel
theorem dX1_init_63 : decode cX1_init 63 = .ok (.putfield 21, 3) := by decide +kernel
theorem dX1_init_66 : decode cX1_init 66 = .ok (.aload_n 0, 1) := by decide +kernel
theorem dX1_init_67 : decode cX1_init 67 = .ok (.bipush 6, 2) := by decide +kernel
theorem dX1_init_69 : decode cX1_init 69 = .ok (.newarray .int, 2) := by decide +kernel
theorem dX1_init_71 : decode cX1_init 71 = .ok (.putfield 24, 3) := by decide +kernel
theorem dX1_init_74 : decode cX1_init 74 = .ok (.return_, 1) := by decide +kernel
theorem dX1_copyFrom_0 : decode cX1_copyFrom 0 = .ok (.aload_n 1, 1) := by decide +kernel
theorem dX1_copyFrom_1 : decode cX1_copyFrom 1 = .ok (.getfield 9, 3) := by decide +kernel
theorem dX1_copyFrom_4 : decode cX1_copyFrom 4 = .ok (.aload_n 0, 1) := by decide +kernel
theorem dX1_copyFrom_5 : decode cX1_copyFrom 5 = .ok (.getfield 9, 3) := by decide +kernel
theorem dX1_copyFrom_8 : decode cX1_copyFrom 8 = .ok (.bipush 6, 2) := by decide +kernel
theorem dX1_copyFrom_10 : decode cX1_copyFrom 10 = .ok (.invokestatic 27, 3) := by decide +kernel
theorem dX1_copyFrom_13 : decode cX1_copyFrom 13 = .ok (.aload_n 1, 1) := by decide +kernel
theorem dX1_copyFrom_14 : decode cX1_copyFrom 14 = .ok (.getfield 15, 3) := by decide +kernel
theorem dX1_copyFrom_17 : decode cX1_copyFrom 17 = .ok (.aload_n 0, 1) := by decide +kernel
theorem dX1_copyFrom_18 : decode cX1_copyFrom 18 = .ok (.getfield 15, 3) := by decide +kernel
theorem dX1_copyFrom_21 : decode cX1_copyFrom 21 = .ok (.bipush 6, 2) := by decide +kernel
theorem dX1_copyFrom_23 : decode cX1_copyFrom 23 = .ok (.invokestatic 27, 3) := by decide +kernel
theorem dX1_copyFrom_26 : decode cX1_copyFrom 26 = .ok (.aload_n 1, 1) := by decide +kernel
theorem dX1_copyFrom_27 : decode cX1_copyFrom 27 = .ok (.getfield 18, 3) := by decide +kernel
theorem dX1_copyFrom_30 : decode cX1_copyFrom 30 = .ok (.aload_n 0, 1) := by decide +kernel
theorem dX1_copyFrom_31 : decode cX1_copyFrom 31 = .ok (.getfield 18, 3) := by decide +kernel
theorem dX1_copyFrom_34 : decode cX1_copyFrom 34 = .ok (.bipush 6, 2) := by decide +kernel
theorem dX1_copyFrom_36 : decode cX1_copyFrom 36 = .ok (.invokestatic 27, 3) := by decide +kernel
theorem dX1_copyFrom_39 : decode cX1_copyFrom 39 = .ok (.aload_n 1, 1) := by decide +kernel
theorem dX1_copyFrom_40 : decode cX1_copyFrom 40 = .ok (.getfield 21, 3) := by decide +kernel
theorem dX1_copyFrom_43 : decode cX1_copyFrom 43 = .ok (.aload_n 0, 1) := by decide +kernel
theorem dX1_copyFrom_44 : decode cX1_copyFrom 44 = .ok (.getfield 21, 3) := by decide +kernel
theorem dX1_copyFrom_47 : decode cX1_copyFrom 47 = .ok (.bipush 6, 2) := by decide +kernel
theorem dX1_copyFrom_49 : decode cX1_copyFrom 49 = .ok (.invokestatic 27, 3) := by decide +kernel
theorem dX1_copyFrom_52 : decode cX1_copyFrom 52 = .ok (.aload_n 1, 1) := by decide +kernel
theorem dX1_copyFrom_53 : decode cX1_copyFrom 53 = .ok (.getfield 24, 3) := by decide +kernel
theorem dX1_copyFrom_56 : decode cX1_copyFrom 56 = .ok (.aload_n 0, 1) := by decide +kernel
theorem dX1_copyFrom_57 : decode cX1_copyFrom 57 = .ok (.getfield 24, 3) := by decide +kernel
theorem dX1_copyFrom_60 : decode cX1_copyFrom 60 = .ok (.bipush 6, 2) := by decide +kernel
theorem dX1_copyFrom_62 : decode cX1_copyFrom 62 = .ok (.invokestatic 27, 3) := by decide +kernel
theorem dX1_copyFrom_65 : decode cX1_copyFrom 65 = .ok (.return_, 1) := by decide +kernel
theorem dX1_totalCrushed_0 : decode cX1_totalCrushed 0 = .ok (.aload_n 0, 1) := by decide +kernel
theorem dX1_totalCrushed_1 : decode cX1_totalCrushed 1 = .ok (.getfield 18, 3) := by decide +kernel
theorem dX1_totalCrushed_4 : decode cX1_totalCrushed 4 = .ok (.invokestatic 31, 3) := by decide +kernel
theorem dX1_totalCrushed_7 : decode cX1_totalCrushed 7 = .ok (.ireturn, 1) := by decide +kernel
theorem dX1_totalLost_0 : decode cX1_totalLost 0 = .ok (.aload_n 0, 1) := by decide +kernel
theorem dX1_totalLost_1 : decode cX1_totalLost 1 = .ok (.getfield 21, 3) := by decide +kernel
theorem dX1_totalLost_4 : decode cX1_totalLost 4 = .ok (.invokestatic 31, 3) := by decide +kernel
theorem dX1_totalLost_7 : decode cX1_totalLost 7 = .ok (.ireturn, 1) := by decide +kernel
theorem dX1_totalPaid_0 : decode cX1_totalPaid 0 = .ok (.aload_n 0, 1) := by decide +kernel
theorem dX1_totalPaid_1 : decode cX1_totalPaid 1 = .ok (.getfield 24, 3) := by decide +kernel
theorem dX1_totalPaid_4 : decode cX1_totalPaid 4 = .ok (.invokestatic 31, 3) := by decide +kernel
theorem dX1_totalPaid_7 : decode cX1_totalPaid 7 = .ok (.ireturn, 1) := by decide +kernel
theorem dX2_init_0 : decode cX2_init 0 = .ok (.aload_n 0, 1) := by decide +kernel
theorem dX2_init_1 : decode cX2_init 1 = .ok (.invokespecial 3, 3) := by decide +kernel
theorem dX2_init_4 : decode cX2_init 4 = .ok (.aload_n 0, 1) := by decide +kernel
theorem dX2_init_5 : decode cX2_init 5 = .ok (.bipush 7, 2) := by decide +kernel
theorem dX2_init_7 : decode cX2_init 7 = .ok (.anewarray 11, 3) := by decide +kernel
theorem dX2_init_10 : decode cX2_init 10 = .ok (.putfield 13, 3) := by decide +kernel
theorem dX2_init_13 : decode cX2_init 13 = .ok (.return_, 1) := by decide +kernel
theorem dX2_prepare_0 : decode cX2_prepare 0 = .ok (.aload_n 0, 1) := by decide +kernel
theorem dX2_prepare_1 : decode cX2_prepare 1 = .ok (.getfield 17, 3) := by decide +kernel
theorem dX2_prepare_4 : decode cX2_prepare 4 = .ok (.aload_n 0, 1) := by decide +kernel
theorem dX2_prepare_5 : decode cX2_prepare 5 = .ok (.getfield 21, 3) := by decide +kernel
theorem dX2_prepare_8 : decode cX2_prepare 8 = .ok (.iadd, 1) := by decide +kernel
theorem dX2_prepare_9 : decode cX2_prepare 9 = .ok (.bipush 7, 2) := by decide +kernel
theorem dX2_prepare_11 : decode cX2_prepare 11 = .ok (.irem, 1) := by decide +kernel
theorem dX2_prepare_12 : decode cX2_prepare 12 = .ok (.istore_n 2, 1) := by decide +kernel
theorem dX2_prepare_13 : decode cX2_prepare 13 = .ok (.aload_n 0, 1) := by decide +kernel
theorem dX2_prepare_14 : decode cX2_prepare 14 = .ok (.getfield 13, 3) := by decide +kernel
theorem dX2_prepare_17 : decode cX2_prepare 17 = .ok (.iload_n 2, 1) := by decide +kernel
theorem dX2_prepare_18 : decode cX2_prepare 18 = .ok (.aaload, 1) := by decide +kernel
theorem dX2_prepare_19 : decode cX2_prepare 19 = .ok (.astore_n 3, 1) := by decide +kernel
theorem dX2_prepare_20 : decode cX2_prepare 20 = .ok (.aload_n 3, 1) := by decide +kernel
theorem dX2_prepare_21 : decode cX2_prepare 21 = .ok (.ifnonnull 18, 3) := by decide +kernel
theorem dX2_prepare_24 : decode cX2_prepare 24 = .ok (.new 11, 3) := by decide +kernel
theorem dX2_prepare_27 : decode cX2_prepare 27 = .ok (.dup, 1) := by decide +kernel
theorem dX2_prepare_28 : decode cX2_prepare 28 = .ok (.invokespecial 24, 3) := by decide +kernel
theorem dX2_prepare_31 : decode cX2_prepare 31 = .ok (.astore_n 3, 1) := by decide +kernel
theorem dX2_prepare_32 : decode cX2_prepare 32 = .ok (.aload_n 0, 1) := by decide +kernel
theorem dX2_prepare_33 : decode cX2_prepare 33 = .ok (.getfield 13, 3) := by decide +kernel
theorem dX2_prepare_36 : decode cX2_prepare 36 = .ok (.iload_n 2, 1) := by decide +kernel
theorem dX2_prepare_37 : decode cX2_prepare 37 = .ok (.aload_n 3, 1) := by decide +kernel
theorem dX2_prepare_38 : decode cX2_prepare 38 = .ok (.aastore, 1) := by decide +kernel
theorem dX2_prepare_39 : decode cX2_prepare 39 = .ok (.aload_n 3, 1) := by decide +kernel
theorem dX2_prepare_40 : decode cX2_prepare 40 = .ok (.aload_n 1, 1) := by decide +kernel
theorem dX2_prepare_41 : decode cX2_prepare 41 = .ok (.invokevirtual 25, 3) := by decide +kernel
theorem dX2_prepare_44 : decode cX2_prepare 44 = .ok (.return_, 1) := by decide +kernel
theorem dX2_recordUnlessError_0 : decode cX2_recordUnlessError 0 = .ok (.iload_n 1, 1) := by decide +kernel
theorem dX2_recordUnlessError_1 : decode cX2_recordUnlessError 1 = .ok (.ifCond .ge 5, 3) := by decide +kernel
theorem dX2_recordUnlessError_4 : decode cX2_recordUnlessError 4 = .ok (.iload_n 1, 1) := by decide +kernel
theorem dX2_recordUnlessError_5 : decode cX2_recordUnlessError 5 = .ok (.ireturn, 1) := by decide +kernel
theorem dX2_recordUnlessError_6 : decode cX2_recordUnlessError 6 = .ok (.aload_n 0, 1) := by decide +kernel
theorem dX2_recordUnlessError_7 : decode cX2_recordUnlessError 7 = .ok (.getfield 21, 3) := by decide +kernel
theorem dX2_recordUnlessError_10 : decode cX2_recordUnlessError 10 = .ok (.bipush 6, 2) := by decide +kernel
theorem dX2_recordUnlessError_12 : decode cX2_recordUnlessError 12 = .ok (.if_icmp .ge 16, 3) := by decide +kernel
theorem dX2_recordUnlessError_15 : decode cX2_recordUnlessError 15 = .ok (.aload_n 0, 1) := by decide +kernel
theorem dX2_recordUnlessError_16 : decode cX2_recordUnlessError 16 = .ok (.dup, 1) := by decide +kernel
theorem dX2_recordUnlessError_17 : decode cX2_recordUnlessError 17 = .ok (.getfield 21, 3) := by decide +kernel
theorem dX2_recordUnlessError_20 : decode cX2_recordUnlessError 20 = .ok (.iconst 1, 1) := by decide +kernel
theorem dX2_recordUnlessError_21 : decode cX2_recordUnlessError 21 = .ok (.iadd, 1) := by decide +kernel
theorem dX2_recordUnlessError_22 : decode cX2_recordUnlessError 22 = .ok (.putfield 21, 3) := by decide +kernel
theorem dX2_recordUnlessError_25 : decode cX2_recordUnlessError 25 = .ok (.goto 16, 3) := by decide +kernel
theorem dX2_recordUnlessError_28 : decode cX2_recordUnlessError 28 = .ok (.aload_n 0, 1) := by decide +kernel
theorem dX2_recordUnlessError_29 : decode cX2_recordUnlessError 29 = .ok (.aload_n 0, 1) := by decide +kernel
theorem dX2_recordUnlessError_30 : decode cX2_recordUnlessError 30 = .ok (.getfield 17, 3) := by decide +kernel
theorem dX2_recordUnlessError_33 : decode cX2_recordUnlessError 33 = .ok (.iconst 1, 1) := by decide +kernel
theorem dX2_recordUnlessError_34 : decode cX2_recordUnlessError 34 = .ok (.iadd, 1) := by decide +kernel
theorem dX2_recordUnlessError_35 : decode cX2_recordUnlessError 35 = .ok (.bipush 7, 2) := by decide +kernel
theorem dX2_recordUnlessError_37 : decode cX2_recordUnlessError 37 = .ok (.irem, 1) := by decide +kernel
theorem dX2_recordUnlessError_38 : decode cX2_recordUnlessError 38 = .ok (.putfield 17, 3) := by decide +kernel
theorem dX2_recordUnlessError_41 : decode cX2_recordUnlessError 41 = .ok (.iload_n 1, 1) := by decide +kernel
theorem dX2_recordUnlessError_42 : decode cX2_recordUnlessError 42 = .ok (.ireturn, 1) := by decide +kernel
theorem dX2_bringBackLatest_0 : decode cX2_bringBackLatest 0 = .ok (.aload_n 0, 1) := by decide +kernel
theorem dX2_bringBackLatest_1 : decode cX2_bringBackLatest 1 = .ok (.getfield 21, 3) := by decide +kernel
theorem dX2_bringBackLatest_4 : decode cX2_bringBackLatest 4 = .ok (.ifCond .ne 4, 3) := by decide +kernel
theorem dX2_bringBackLatest_7 : decode cX2_bringBackLatest 7 = .ok (.return_, 1) := by decide +kernel
theorem dX2_bringBackLatest_8 : decode cX2_bringBackLatest 8 = .ok (.aload_n 0, 1) := by decide +kernel
theorem dX2_bringBackLatest_9 : decode cX2_bringBackLatest 9 = .ok (.dup, 1) := by decide +kernel
theorem dX2_bringBackLatest_10 : decode cX2_bringBackLatest 10 = .ok (.getfield 21, 3) := by decide +kernel
theorem dX2_bringBackLatest_13 : decode cX2_bringBackLatest 13 = .ok (.iconst 1, 1) := by decide +kernel
theorem dX2_bringBackLatest_14 : decode cX2_bringBackLatest 14 = .ok (.isub, 1) := by decide +kernel
theorem dX2_bringBackLatest_15 : decode cX2_bringBackLatest 15 = .ok (.putfield 21, 3) := by decide +kernel
theorem dX2_bringBackLatest_18 : decode cX2_bringBackLatest 18 = .ok (.aload_n 0, 1) := by decide +kernel
theorem dX2_bringBackLatest_19 : decode cX2_bringBackLatest 19 = .ok (.getfield 13, 3) := by decide +kernel
theorem dX2_bringBackLatest_22 : decode cX2_bringBackLatest 22 = .ok (.aload_n 0, 1) := by decide +kernel
theorem dX2_bringBackLatest_23 : decode cX2_bringBackLatest 23 = .ok (.getfield 17, 3) := by decide +kernel
theorem dX2_bringBackLatest_26 : decode cX2_bringBackLatest 26 = .ok (.aload_n 0, 1) := by decide +kernel
theorem dX2_bringBackLatest_27 : decode cX2_bringBackLatest 27 = .ok (.getfield 21, 3) := by decide +kernel
theorem dX2_bringBackLatest_30 : decode cX2_bringBackLatest 30 = .ok (.iadd, 1) := by decide +kernel
theorem dX2_bringBackLatest_31 : decode cX2_bringBackLatest 31 = .ok (.bipush 7, 2) := by decide +kernel
theorem dX2_bringBackLatest_33 : decode cX2_bringBackLatest 33 = .ok (.irem, 1) := by decide +kernel
theorem dX2_bringBackLatest_34 : decode cX2_bringBackLatest 34 = .ok (.aaload, 1) := by decide +kernel
theorem dX2_bringBackLatest_35 : decode cX2_bringBackLatest 35 = .ok (.astore_n 2, 1) := by decide +kernel
theorem dX2_bringBackLatest_36 : decode cX2_bringBackLatest 36 = .ok (.aload_n 2, 1) := by decide +kernel
theorem dX2_bringBackLatest_37 : decode cX2_bringBackLatest 37 = .ok (.ifnull 8, 3) := by decide +kernel
theorem dX2_bringBackLatest_40 : decode cX2_bringBackLatest 40 = .ok (.aload_n 1, 1) := by decide +kernel
theorem dX2_bringBackLatest_41 : decode cX2_bringBackLatest 41 = .ok (.aload_n 2, 1) := by decide +kernel
theorem dX2_bringBackLatest_42 : decode cX2_bringBackLatest 42 = .ok (.invokevirtual 25, 3) := by decide +kernel
theorem dX2_bringBackLatest_45 : decode cX2_bringBackLatest 45 = .ok (.return_, 1) := by decide +kernel
theorem dX3_init_0 : decode cX3_init 0 = .ok (.aload_n 0, 1) := by decide +kernel
theorem dX3_init_1 : decode cX3_init 1 = .ok (.invokespecial 3, 3) := by decide +kernel
theorem dX3_init_4 : decode cX3_init 4 = .ok (.aload_n 0, 1) := by decide +kernel
theorem dX3_init_5 : decode cX3_init 5 = .ok (.bipush 7, 2) := by decide +kernel
theorem dX3_init_7 : decode cX3_init 7 = .ok (.newarray .int, 2) := by decide +kernel
theorem dX3_init_9 : decode cX3_init 9 = .ok (.dup, 1) := by decide +kernel
theorem dX3_init_10 : decode cX3_init 10 = .ok (.iconst 0, 1) := by decide +kernel
theorem dX3_init_11 : decode cX3_init 11 = .ok (.iconst 4, 1) := by decide +kernel
theorem dX3_init_12 : decode cX3_init 12 = .ok (.iastore, 1) := by decide +kernel
theorem dX3_init_13 : decode cX3_init 13 = .ok (.dup, 1) := by decide +kernel
theorem dX3_init_14 : decode cX3_init 14 = .ok (.iconst 1, 1) := by decide +kernel
theorem dX3_init_15 : decode cX3_init 15 = .ok (.bipush 10, 2) := by decide +kernel
theorem dX3_init_17 : decode cX3_init 17 = .ok (.iastore, 1) := by decide +kernel
theorem dX3_init_18 : decode cX3_init 18 = .ok (.dup, 1) := by decide +kernel
theorem dX3_init_19 : decode cX3_init 19 = .ok (.iconst 2, 1) := by decide +kernel
theorem dX3_init_20 : decode cX3_init 20 = .ok (.bipush 60, 2) := by decide +kernel
theorem dX3_init_22 : decode cX3_init 22 = .ok (.iastore, 1) := by decide +kernel
theorem dX3_init_23 : decode cX3_init 23 = .ok (.dup, 1) := by decide +kernel
theorem dX3_init_24 : decode cX3_init 24 = .ok (.iconst 3, 1) := by decide +kernel
theorem dX3_init_25 : decode cX3_init 25 = .ok (.bipush 100, 2) := by decide +kernel
theorem dX3_init_27 : decode cX3_init 27 = .ok (.iastore, 1) := by decide +kernel
theorem dX3_init_28 : decode cX3_init 28 = .ok (.dup, 1) := by decide +kernel
theorem dX3_init_29 : decode cX3_init 29 = .ok (.iconst 4, 1) := by decide +kernel
theorem dX3_init_30 : decode cX3_init 30 = .ok (.bipush 8, 2) := by decide +kernel
theorem dX3_init_32 : decode cX3_init 32 = .ok (.iastore, 1) := by decide +kernel
theorem dX3_init_33 : decode cX3_init 33 = .ok (.dup, 1) := by decide +kernel
theorem dX3_init_34 : decode cX3_init 34 = .ok (.iconst 5, 1) := by decide +kernel
theorem dX3_init_35 : decode cX3_init 35 = .ok (.iconst 5, 1) := by decide +kernel
theorem dX3_init_36 : decode cX3_init 36 = .ok (.iastore, 1) := by decide +kernel
theorem dX3_init_37 : decode cX3_init 37 = .ok (.dup, 1) := by decide +kernel
theorem dX3_init_38 : decode cX3_init 38 = .ok (.bipush 6, 2) := by decide +kernel
theorem dX3_init_40 : decode cX3_init 40 = .ok (.bipush 30, 2) := by decide +kernel
theorem dX3_init_42 : decode cX3_init 42 = .ok (.iastore, 1) := by decide +kernel
theorem dX3_init_43 : decode cX3_init 43 = .ok (.putfield 9, 3) := by decide +kernel
theorem dX3_init_46 : decode cX3_init 46 = .ok (.aload_n 0, 1) := by decide +kernel
theorem dX3_init_47 : decode cX3_init 47 = .ok (.new 15, 3) := by decide +kernel
theorem dX3_init_50 : decode cX3_init 50 = .ok (.dup, 1) := by decide +kernel
theorem dX3_init_51 : decode cX3_init 51 = .ok (.invokespecial 17, 3) := by decide +kernel
theorem dX3_init_54 : decode cX3_init 54 = .ok (.putfield 18, 3) := by decide +kernel
theorem dX3_init_57 : decode cX3_init 57 = .ok (.aload_n 0, 1) := by decide +kernel
theorem dX3_init_58 : decode cX3_init 58 = .ok (.new 22, 3) := by decide +kernel
theorem dX3_init_61 : decode cX3_init 61 = .ok (.dup, 1) := by decide +kernel
theorem dX3_init_62 : decode cX3_init 62 = .ok (.invokespecial 24, 3) := by decide +kernel
theorem dX3_init_65 : decode cX3_init 65 = .ok (.putfield 25, 3) := by decide +kernel
theorem dX3_init_68 : decode cX3_init 68 = .ok (.aload_n 0, 1) := by decide +kernel
theorem dX3_init_69 : decode cX3_init 69 = .ok (.new 29, 3) := by decide +kernel
theorem dX3_init_72 : decode cX3_init 72 = .ok (.dup, 1) := by decide +kernel
theorem dX3_init_73 : decode cX3_init 73 = .ok (.invokespecial 31, 3) := by decide +kernel
theorem dX3_init_76 : decode cX3_init 76 = .ok (.putfield 32, 3) := by decide +kernel
theorem dX3_init_79 : decode cX3_init 79 = .ok (.aload_n 0, 1) := by decide +kernel
theorem dX3_init_80 : decode cX3_init 80 = .ok (.new 36, 3) := by decide +kernel
theorem dX3_init_83 : decode cX3_init 83 = .ok (.dup, 1) := by decide +kernel
theorem dX3_init_84 : decode cX3_init 84 = .ok (.invokespecial 38, 3) := by decide +kernel
theorem dX3_init_87 : decode cX3_init 87 = .ok (.putfield 39, 3) := by decide +kernel
theorem dX3_init_90 : decode cX3_init 90 = .ok (.return_, 1) := by decide +kernel
theorem dX3_copyFrom_0 : decode cX3_copyFrom 0 = .ok (.aload_n 1, 1) := by decide +kernel
theorem dX3_copyFrom_1 : decode cX3_copyFrom 1 = .ok (.getfield 9, 3) := by decide +kernel
theorem dX3_copyFrom_4 : decode cX3_copyFrom 4 = .ok (.aload_n 0, 1) := by decide +kernel
theorem dX3_copyFrom_5 : decode cX3_copyFrom 5 = .ok (.getfield 9, 3) := by decide +kernel
theorem dX3_copyFrom_8 : decode cX3_copyFrom 8 = .ok (.bipush 7, 2) := by decide +kernel
theorem dX3_copyFrom_10 : decode cX3_copyFrom 10 = .ok (.invokestatic 43, 3) := by decide +kernel
theorem dX3_copyFrom_13 : decode cX3_copyFrom 13 = .ok (.aload_n 0, 1) := by decide +kernel
theorem dX3_copyFrom_14 : decode cX3_copyFrom 14 = .ok (.getfield 18, 3) := by decide +kernel
theorem dX3_copyFrom_17 : decode cX3_copyFrom 17 = .ok (.aload_n 1, 1) := by decide +kernel
theorem dX3_copyFrom_18 : decode cX3_copyFrom 18 = .ok (.getfield 18, 3) := by decide +kernel
theorem dX3_copyFrom_21 : decode cX3_copyFrom 21 = .ok (.invokevirtual 47, 3) := by decide +kernel
theorem dX3_copyFrom_24 : decode cX3_copyFrom 24 = .ok (.aload_n 0, 1) := by decide +kernel
theorem dX3_copyFrom_25 : decode cX3_copyFrom 25 = .ok (.getfield 25, 3) := by decide +kernel
theorem dX3_copyFrom_28 : decode cX3_copyFrom 28 = .ok (.aload_n 1, 1) := by decide +kernel
theorem dX3_copyFrom_29 : decode cX3_copyFrom 29 = .ok (.getfield 25, 3) := by decide +kernel
theorem dX3_copyFrom_32 : decode cX3_copyFrom 32 = .ok (.invokevirtual 51, 3) := by decide +kernel
theorem dX3_copyFrom_35 : decode cX3_copyFrom 35 = .ok (.aload_n 0, 1) := by decide +kernel
theorem dX3_copyFrom_36 : decode cX3_copyFrom 36 = .ok (.getfield 32, 3) := by decide +kernel
theorem dX3_copyFrom_39 : decode cX3_copyFrom 39 = .ok (.aload_n 1, 1) := by decide +kernel
theorem dX3_copyFrom_40 : decode cX3_copyFrom 40 = .ok (.getfield 32, 3) := by decide +kernel
theorem dX3_copyFrom_43 : decode cX3_copyFrom 43 = .ok (.invokevirtual 54, 3) := by decide +kernel
theorem dX3_copyFrom_46 : decode cX3_copyFrom 46 = .ok (.aload_n 0, 1) := by decide +kernel
theorem dX3_copyFrom_47 : decode cX3_copyFrom 47 = .ok (.getfield 39, 3) := by decide +kernel
theorem dX3_copyFrom_50 : decode cX3_copyFrom 50 = .ok (.aload_n 1, 1) := by decide +kernel
theorem dX3_copyFrom_51 : decode cX3_copyFrom 51 = .ok (.getfield 39, 3) := by decide +kernel
theorem dX3_copyFrom_54 : decode cX3_copyFrom 54 = .ok (.invokevirtual 57, 3) := by decide +kernel
theorem dX3_copyFrom_57 : decode cX3_copyFrom 57 = .ok (.aload_n 0, 1) := by decide +kernel
theorem dX3_copyFrom_58 : decode cX3_copyFrom 58 = .ok (.aload_n 1, 1) := by decide +kernel
theorem dX3_copyFrom_59 : decode cX3_copyFrom 59 = .ok (.getfield 60, 3) := by decide +kernel
theorem dX3_copyFrom_62 : decode cX3_copyFrom 62 = .ok (.putfield 60, 3) := by decide +kernel
theorem dX3_copyFrom_65 : decode cX3_copyFrom 65 = .ok (.aload_n 0, 1) := by decide +kernel
theorem dX3_copyFrom_66 : decode cX3_copyFrom 66 = .ok (.aload_n 1, 1) := by decide +kernel
theorem dX3_copyFrom_67 : decode cX3_copyFrom 67 = .ok (.getfield 64, 3) := by decide +kernel
theorem dX3_copyFrom_70 : decode cX3_copyFrom 70 = .ok (.putfield 64, 3) := by decide +kernel
theorem dX3_copyFrom_73 : decode cX3_copyFrom 73 = .ok (.aload_n 0, 1) := by decide +kernel
theorem dX3_copyFrom_74 : decode cX3_copyFrom 74 = .ok (.aload_n 1, 1) := by decide +kernel
theorem dX3_copyFrom_75 : decode cX3_copyFrom 75 = .ok (.getfield 67, 3) := by decide +kernel
theorem dX3_copyFrom_78 : decode cX3_copyFrom 78 = .ok (.putfield 67, 3) := by decide +kernel
theorem dX3_copyFrom_81 : decode cX3_copyFrom 81 = .ok (.aload_n 0, 1) := by decide +kernel
theorem dX3_copyFrom_82 : decode cX3_copyFrom 82 = .ok (.aload_n 1, 1) := by decide +kernel
theorem dX3_copyFrom_83 : decode cX3_copyFrom 83 = .ok (.getfield 70, 3) := by decide +kernel
theorem dX3_copyFrom_86 : decode cX3_copyFrom 86 = .ok (.putfield 70, 3) := by decide +kernel
theorem dX3_copyFrom_89 : decode cX3_copyFrom 89 = .ok (.return_, 1) := by decide +kernel
theorem dX3_changeSetting_0 : decode cX3_changeSetting 0 = .ok (.iload_n 1, 1) := by decide +kernel
theorem dX3_changeSetting_1 : decode cX3_changeSetting 1 = .ok (.iconst 0, 1) := by decide +kernel
theorem dX3_changeSetting_2 : decode cX3_changeSetting 2 = .ok (.bipush 6, 2) := by decide +kernel
theorem dX3_changeSetting_4 : decode cX3_changeSetting 4 = .ok (.invokestatic 73, 3) := by decide +kernel
theorem dX3_changeSetting_7 : decode cX3_changeSetting 7 = .ok (.ifCond .ne 6, 3) := by decide +kernel
theorem dX3_changeSetting_10 : decode cX3_changeSetting 10 = .ok (.bipush (-2), 2) := by decide +kernel
theorem dX3_changeSetting_12 : decode cX3_changeSetting 12 = .ok (.ireturn, 1) := by decide +kernel
theorem dX3_changeSetting_13 : decode cX3_changeSetting 13 = .ok (.iload_n 2, 1) := by decide +kernel
theorem dX3_changeSetting_14 : decode cX3_changeSetting 14 = .ok (.getstatic 77, 3) := by decide +kernel
theorem dX3_changeSetting_17 : decode cX3_changeSetting 17 = .ok (.iload_n 1, 1) := by decide +kernel
theorem dX3_changeSetting_18 : decode cX3_changeSetting 18 = .ok (.iaload, 1) := by decide +kernel
theorem dX3_changeSetting_19 : decode cX3_changeSetting 19 = .ok (.getstatic 80, 3) := by decide +kernel
theorem dX3_changeSetting_22 : decode cX3_changeSetting 22 = .ok (.iload_n 1, 1) := by decide +kernel
theorem dX3_changeSetting_23 : decode cX3_changeSetting 23 = .ok (.iaload, 1) := by decide +kernel
theorem dX3_changeSetting_24 : decode cX3_changeSetting 24 = .ok (.invokestatic 73, 3) := by decide +kernel
theorem dX3_changeSetting_27 : decode cX3_changeSetting 27 = .ok (.ifCond .ne 6, 3) := by decide +kernel
theorem dX3_changeSetting_30 : decode cX3_changeSetting 30 = .ok (.bipush (-2), 2) := by decide +kernel
theorem dX3_changeSetting_32 : decode cX3_changeSetting 32 = .ok (.ireturn, 1) := by decide +kernel
theorem dX3_changeSetting_33 : decode cX3_changeSetting 33 = .ok (.aload_n 0, 1) := by decide +kernel
theorem dX3_changeSetting_34 : decode cX3_changeSetting 34 = .ok (.getfield 9, 3) := by decide +kernel
theorem dX3_changeSetting_37 : decode cX3_changeSetting 37 = .ok (.iload_n 1, 1) := by decide +kernel
theorem dX3_changeSetting_38 : decode cX3_changeSetting 38 = .ok (.iaload, 1) := by decide +kernel
theorem dX3_changeSetting_39 : decode cX3_changeSetting 39 = .ok (.istore_n 3, 1) := by decide +kernel
theorem dX3_changeSetting_40 : decode cX3_changeSetting 40 = .ok (.aload_n 0, 1) := by decide +kernel
theorem dX3_changeSetting_41 : decode cX3_changeSetting 41 = .ok (.getfield 9, 3) := by decide +kernel
theorem dX3_changeSetting_44 : decode cX3_changeSetting 44 = .ok (.iload_n 1, 1) := by decide +kernel
theorem dX3_changeSetting_45 : decode cX3_changeSetting 45 = .ok (.iload_n 2, 1) := by decide +kernel
theorem dX3_changeSetting_46 : decode cX3_changeSetting 46 = .ok (.iastore, 1) := by decide +kernel
theorem dX3_changeSetting_47 : decode cX3_changeSetting 47 = .ok (.iload_n 3, 1) := by decide +kernel
theorem dX3_changeSetting_48 : decode cX3_changeSetting 48 = .ok (.ireturn, 1) := by decide +kernel
theorem dX3_changeQuota_0 : decode cX3_changeQuota 0 = .ok (.iload_n 1, 1) := by decide +kernel
theorem dX3_changeQuota_1 : decode cX3_changeQuota 1 = .ok (.invokestatic 83, 3) := by decide +kernel
theorem dX3_changeQuota_4 : decode cX3_changeQuota 4 = .ok (.ifCond .ne 5, 3) := by decide +kernel
theorem dX3_changeQuota_7 : decode cX3_changeQuota 7 = .ok (.iconst (-1), 1) := by decide +kernel
theorem dX3_changeQuota_8 : decode cX3_changeQuota 8 = .ok (.ireturn, 1) := by decide +kernel
theorem dX3_changeQuota_9 : decode cX3_changeQuota 9 = .ok (.iload_n 2, 1) := by decide +kernel
theorem dX3_changeQuota_10 : decode cX3_changeQuota 10 = .ok (.iconst 0, 1) := by decide +kernel
theorem dX3_changeQuota_11 : decode cX3_changeQuota 11 = .ok (.sipush 9999, 3) := by decide +kernel
theorem dX3_changeQuota_14 : decode cX3_changeQuota 14 = .ok (.invokestatic 73, 3) := by decide +kernel
theorem dX3_changeQuota_17 : decode cX3_changeQuota 17 = .ok (.ifCond .ne 6, 3) := by decide +kernel
theorem dX3_changeQuota_20 : decode cX3_changeQuota 20 = .ok (.bipush (-2), 2) := by decide +kernel
theorem dX3_changeQuota_22 : decode cX3_changeQuota 22 = .ok (.ireturn, 1) := by decide +kernel
theorem dX3_changeQuota_23 : decode cX3_changeQuota 23 = .ok (.aload_n 0, 1) := by decide +kernel
theorem dX3_changeQuota_24 : decode cX3_changeQuota 24 = .ok (.getfield 18, 3) := by decide +kernel
theorem dX3_changeQuota_27 : decode cX3_changeQuota 27 = .ok (.getfield 87, 3) := by decide +kernel
theorem dX3_changeQuota_30 : decode cX3_changeQuota 30 = .ok (.iload_n 1, 1) := by decide +kernel
theorem dX3_changeQuota_31 : decode cX3_changeQuota 31 = .ok (.iaload, 1) := by decide +kernel
theorem dX3_changeQuota_32 : decode cX3_changeQuota 32 = .ok (.istore_n 3, 1) := by decide +kernel
theorem dX3_changeQuota_33 : decode cX3_changeQuota 33 = .ok (.aload_n 0, 1) := by decide +kernel
theorem dX3_changeQuota_34 : decode cX3_changeQuota 34 = .ok (.getfield 18, 3) := by decide +kernel
theorem dX3_changeQuota_37 : decode cX3_changeQuota 37 = .ok (.getfield 87, 3) := by decide +kernel
theorem dX3_changeQuota_40 : decode cX3_changeQuota 40 = .ok (.iload_n 1, 1) := by decide +kernel
theorem dX3_changeQuota_41 : decode cX3_changeQuota 41 = .ok (.iload_n 2, 1) := by decide +kernel
theorem dX3_changeQuota_42 : decode cX3_changeQuota 42 = .ok (.iastore, 1) := by decide +kernel
theorem dX3_changeQuota_43 : decode cX3_changeQuota 43 = .ok (.iload_n 3, 1) := by decide +kernel
theorem dX3_changeQuota_44 : decode cX3_changeQuota 44 = .ok (.ireturn, 1) := by decide +kernel
theorem dX3_lendQuota_0 : decode cX3_lendQuota 0 = .ok (.iload_n 1, 1) := by decide +kernel
theorem dX3_lendQuota_1 : decode cX3_lendQuota 1 = .ok (.invokestatic 83, 3) := by decide +kernel
theorem dX3_lendQuota_4 : decode cX3_lendQuota 4 = .ok (.ifCond .eq 10, 3) := by decide +kernel
theorem dX3_lendQuota_7 : decode cX3_lendQuota 7 = .ok (.iload_n 2, 1) := by decide +kernel
theorem dX3_lendQuota_8 : decode cX3_lendQuota 8 = .ok (.invokestatic 83, 3) := by decide +kernel
theorem dX3_lendQuota_11 : decode cX3_lendQuota 11 = .ok (.ifCond .ne 5, 3) := by decide +kernel
theorem dX3_lendQuota_14 : decode cX3_lendQuota 14 = .ok (.iconst (-1), 1) := by decide +kernel
theorem dX3_lendQuota_15 : decode cX3_lendQuota 15 = .ok (.ireturn, 1) := by decide +kernel
theorem dX3_lendQuota_16 : decode cX3_lendQuota 16 = .ok (.iload_n 3, 1) := by decide +kernel
theorem dX3_lendQuota_17 : decode cX3_lendQuota 17 = .ok (.iconst 1, 1) := by decide +kernel
theorem dX3_lendQuota_18 : decode cX3_lendQuota 18 = .ok (.if_icmp .lt 8, 3) := by decide +kernel
theorem dX3_lendQuota_21 : decode cX3_lendQuota 21 = .ok (.iload_n 1, 1) := by decide +kernel
theorem dX3_lendQuota_22 : decode cX3_lendQuota 22 = .ok (.iload_n 2, 1) := by decide +kernel
theorem dX3_lendQuota_23 : decode cX3_lendQuota 23 = .ok (.if_icmp .ne 6, 3) := by decide +kernel
theorem dX3_lendQuota_26 : decode cX3_lendQuota 26 = .ok (.bipush (-2), 2) := by decide +kernel
theorem dX3_lendQuota_28 : decode cX3_lendQuota 28 = .ok (.ireturn, 1) := by decide +kernel
theorem dX3_lendQuota_29 : decode cX3_lendQuota 29 = .ok (.aload_n 0, 1) := by decide +kernel
theorem dX3_lendQuota_30 : decode cX3_lendQuota 30 = .ok (.getfield 18, 3) := by decide +kernel
theorem dX3_lendQuota_33 : decode cX3_lendQuota 33 = .ok (.getfield 87, 3) := by decide +kernel
theorem dX3_lendQuota_36 : decode cX3_lendQuota 36 = .ok (.iload_n 1, 1) := by decide +kernel
theorem dX3_lendQuota_37 : decode cX3_lendQuota 37 = .ok (.iaload, 1) := by decide +kernel
theorem dX3_lendQuota_38 : decode cX3_lendQuota 38 = .ok (.iload_n 3, 1) := by decide +kernel
theorem dX3_lendQuota_39 : decode cX3_lendQuota 39 = .ok (.if_icmp .lt 20, 3) := by decide +kernel
theorem dX3_lendQuota_42 : decode cX3_lendQuota 42 = .ok (.aload_n 0, 1) := by decide +kernel
theorem dX3_lendQuota_43 : decode cX3_lendQuota 43 = .ok (.getfield 18, 3) := by decide +kernel
theorem dX3_lendQuota_46 : decode cX3_lendQuota 46 = .ok (.getfield 87, 3) := by decide +kernel
theorem dX3_lendQuota_49 : decode cX3_lendQuota 49 = .ok (.iload_n 2, 1) := by decide +kernel
theorem dX3_lendQuota_50 : decode cX3_lendQuota 50 = .ok (.iaload, 1) := by decide +kernel
theorem dX3_lendQuota_51 : decode cX3_lendQuota 51 = .ok (.sipush 9999, 3) := by decide +kernel
theorem dX3_lendQuota_54 : decode cX3_lendQuota 54 = .ok (.iload_n 3, 1) := by decide +kernel
theorem dX3_lendQuota_55 : decode cX3_lendQuota 55 = .ok (.isub, 1) := by decide +kernel
theorem dX3_lendQuota_56 : decode cX3_lendQuota 56 = .ok (.if_icmp .le 6, 3) := by decide +kernel
theorem dX3_lendQuota_59 : decode cX3_lendQuota 59 = .ok (.bipush (-5), 2) := by decide +kernel
theorem dX3_lendQuota_61 : decode cX3_lendQuota 61 = .ok (.ireturn, 1) := by decide +kernel
theorem dX3_lendQuota_62 : decode cX3_lendQuota 62 = .ok (.aload_n 0, 1) := by decide +kernel
theorem dX3_lendQuota_63 : decode cX3_lendQuota 63 = .ok (.getfield 18, 3) := by decide +kernel
theorem dX3_lendQuota_66 : decode cX3_lendQuota 66 = .ok (.getfield 87, 3) := by decide +kernel
theorem dX3_lendQuota_69 : decode cX3_lendQuota 69 = .ok (.iload_n 1, 1) := by decide +kernel
theorem dX3_lendQuota_70 : decode cX3_lendQuota 70 = .ok (.dup2, 1) := by decide +kernel
theorem dX3_lendQuota_71 : decode cX3_lendQuota 71 = .ok (.iaload, 1) := by decide +kernel
theorem dX3_lendQuota_72 : decode cX3_lendQuota 72 = .ok (.iload_n 3, 1) := by decide +kernel
theorem dX3_lendQuota_73 : decode cX3_lendQuota 73 = .ok (.isub, 1) := by decide +kernel
theorem dX3_lendQuota_74 : decode cX3_lendQuota 74 = .ok (.iastore, 1) := by decide +kernel
theorem dX3_lendQuota_75 : decode cX3_lendQuota 75 = .ok (.aload_n 0, 1) := by decide +kernel
theorem dX3_lendQuota_76 : decode cX3_lendQuota 76 = .ok (.getfield 18, 3) := by decide +kernel
theorem dX3_lendQuota_79 : decode cX3_lendQuota 79 = .ok (.getfield 87, 3) := by decide +kernel
theorem dX3_lendQuota_82 : decode cX3_lendQuota 82 = .ok (.iload_n 2, 1) := by decide +kernel
theorem dX3_lendQuota_83 : decode cX3_lendQuota 83 = .ok (.dup2, 1) := by decide +kernel
theorem dX3_lendQuota_84 : decode cX3_lendQuota 84 = .ok (.iaload, 1) := by decide +kernel
theorem dX3_lendQuota_85 : decode cX3_lendQuota 85 = .ok (.iload_n 3, 1) := by decide +kernel
theorem dX3_lendQuota_86 : decode cX3_lendQuota 86 = .ok (.iadd, 1) := by decide +kernel
theorem dX3_lendQuota_87 : decode cX3_lendQuota 87 = .ok (.iastore, 1) := by decide +kernel
theorem dX3_lendQuota_88 : decode cX3_lendQuota 88 = .ok (.aload_n 0, 1) := by decide +kernel
theorem dX3_lendQuota_89 : decode cX3_lendQuota 89 = .ok (.getfield 18, 3) := by decide +kernel
theorem dX3_lendQuota_92 : decode cX3_lendQuota 92 = .ok (.getfield 87, 3) := by decide +kernel
theorem dX3_lendQuota_95 : decode cX3_lendQuota 95 = .ok (.iload_n 1, 1) := by decide +kernel
theorem dX3_lendQuota_96 : decode cX3_lendQuota 96 = .ok (.iaload, 1) := by decide +kernel
theorem dX3_lendQuota_97 : decode cX3_lendQuota 97 = .ok (.ireturn, 1) := by decide +kernel
theorem dX3_addField_0 : decode cX3_addField 0 = .ok (.iload_n 1, 1) := by decide +kernel
theorem dX3_addField_1 : decode cX3_addField 1 = .ok (.invokestatic 83, 3) := by decide +kernel
theorem dX3_addField_4 : decode cX3_addField 4 = .ok (.ifCond .ne 5, 3) := by decide +kernel
theorem dX3_addField_7 : decode cX3_addField 7 = .ok (.iconst (-1), 1) := by decide +kernel
theorem dX3_addField_8 : decode cX3_addField 8 = .ok (.ireturn, 1) := by decide +kernel
theorem dX3_addField_9 : decode cX3_addField 9 = .ok (.iload_n 2, 1) := by decide +kernel
theorem dX3_addField_10 : decode cX3_addField 10 = .ok (.iconst 1, 1) := by decide +kernel
theorem dX3_addField_11 : decode cX3_addField 11 = .ok (.sipush 300, 3) := by decide +kernel
theorem dX3_addField_14 : decode cX3_addField 14 = .ok (.invokestatic 73, 3) := by decide +kernel
theorem dX3_addField_17 : decode cX3_addField 17 = .ok (.ifCond .eq 13, 3) := by decide +kernel
theorem dX3_addField_20 : decode cX3_addField 20 = .ok (.iload_n 3, 1) := by decide +kernel
theorem dX3_addField_21 : decode cX3_addField 21 = .ok (.iconst 1, 1) := by decide +kernel
theorem dX3_addField_22 : decode cX3_addField 22 = .ok (.bipush 100, 2) := by decide +kernel
theorem dX3_addField_24 : decode cX3_addField 24 = .ok (.invokestatic 73, 3) := by decide +kernel
theorem dX3_addField_27 : decode cX3_addField 27 = .ok (.ifCond .ne 6, 3) := by decide +kernel
theorem dX3_addField_30 : decode cX3_addField 30 = .ok (.bipush (-2), 2) := by decide +kernel
theorem dX3_addField_32 : decode cX3_addField 32 = .ok (.ireturn, 1) := by decide +kernel
theorem dX3_addField_33 : decode cX3_addField 33 = .ok (.iload 4, 2) := by decide +kernel
theorem dX3_addField_35 : decode cX3_addField 35 = .ok (.aload_n 0, 1) := by decide +kernel
theorem dX3_addField_36 : decode cX3_addField 36 = .ok (.getfield 60, 3) := by decide +kernel
theorem dX3_addField_39 : decode cX3_addField 39 = .ok (.sipush 999, 3) := by decide +kernel
theorem dX3_addField_42 : decode cX3_addField 42 = .ok (.invokestatic 73, 3) := by decide +kernel
theorem dX3_addField_45 : decode cX3_addField 45 = .ok (.ifCond .ne 6, 3) := by decide +kernel
theorem dX3_addField_48 : decode cX3_addField 48 = .ok (.bipush (-2), 2) := by decide +kernel
theorem dX3_addField_50 : decode cX3_addField 50 = .ok (.ireturn, 1) := by decide +kernel
theorem dX3_addField_51 : decode cX3_addField 51 = .ok (.aload_n 0, 1) := by decide +kernel
theorem dX3_addField_52 : decode cX3_addField 52 = .ok (.getfield 25, 3) := by decide +kernel
theorem dX3_addField_55 : decode cX3_addField 55 = .ok (.iload_n 1, 1) := by decide +kernel
theorem dX3_addField_56 : decode cX3_addField 56 = .ok (.iload_n 2, 1) := by decide +kernel
theorem dX3_addField_57 : decode cX3_addField 57 = .ok (.iload_n 3, 1) := by decide +kernel
theorem dX3_addField_58 : decode cX3_addField 58 = .ok (.iload 4, 2) := by decide +kernel
theorem dX3_addField_60 : decode cX3_addField 60 = .ok (.invokevirtual 90, 3) := by decide +kernel
theorem dX3_addField_63 : decode cX3_addField 63 = .ok (.ireturn, 1) := by decide +kernel
theorem dX3_passDays_0 : decode cX3_passDays 0 = .ok (.iload_n 1, 1) := by decide +kernel
theorem dX3_passDays_1 : decode cX3_passDays 1 = .ok (.iconst 1, 1) := by decide +kernel
theorem dX3_passDays_2 : decode cX3_passDays 2 = .ok (.bipush 99, 2) := by decide +kernel
theorem dX3_passDays_4 : decode cX3_passDays 4 = .ok (.invokestatic 73, 3) := by decide +kernel
theorem dX3_passDays_7 : decode cX3_passDays 7 = .ok (.ifCond .ne 6, 3) := by decide +kernel
theorem dX3_passDays_10 : decode cX3_passDays 10 = .ok (.bipush (-2), 2) := by decide +kernel
theorem dX3_passDays_12 : decode cX3_passDays 12 = .ok (.ireturn, 1) := by decide +kernel
theorem dX3_passDays_13 : decode cX3_passDays 13 = .ok (.aload_n 0, 1) := by decide +kernel
theorem dX3_passDays_14 : decode cX3_passDays 14 = .ok (.getfield 60, 3) := by decide +kernel
theorem dX3_passDays_17 : decode cX3_passDays 17 = .ok (.iload_n 1, 1) := by decide +kernel
theorem dX3_passDays_18 : decode cX3_passDays 18 = .ok (.iadd, 1) := by decide +kernel
theorem dX3_passDays_19 : decode cX3_passDays 19 = .ok (.sipush 1000, 3) := by decide +kernel
theorem dX3_passDays_22 : decode cX3_passDays 22 = .ok (.if_icmp .le 6, 3) := by decide +kernel
theorem dX3_passDays_25 : decode cX3_passDays 25 = .ok (.bipush (-5), 2) := by decide +kernel
theorem dX3_passDays_27 : decode cX3_passDays 27 = .ok (.ireturn, 1) := by decide +kernel
theorem dX3_passDays_28 : decode cX3_passDays 28 = .ok (.iconst 0, 1) := by decide +kernel
theorem dX3_passDays_29 : decode cX3_passDays 29 = .ok (.istore_n 2, 1) := by decide +kernel
theorem dX3_passDays_30 : decode cX3_passDays 30 = .ok (.iload_n 2, 1) := by decide +kernel
theorem dX3_passDays_31 : decode cX3_passDays 31 = .ok (.iload_n 1, 1) := by decide +kernel
theorem dX3_passDays_32 : decode cX3_passDays 32 = .ok (.if_icmp .ge 14, 3) := by decide +kernel
theorem dX3_passDays_35 : decode cX3_passDays 35 = .ok (.aload_n 0, 1) := by decide +kernel
theorem dX3_passDays_36 : decode cX3_passDays 36 = .ok (.iconst 0, 1) := by decide +kernel
theorem dX3_passDays_37 : decode cX3_passDays 37 = .ok (.invokevirtual 94, 3) := by decide +kernel
theorem dX3_passDays_40 : decode cX3_passDays 40 = .ok (.iinc 2 1, 3) := by decide +kernel
theorem dX3_passDays_43 : decode cX3_passDays 43 = .ok (.goto (-13), 3) := by decide +kernel
theorem dX3_passDays_46 : decode cX3_passDays 46 = .ok (.aload_n 0, 1) := by decide +kernel
theorem dX3_passDays_47 : decode cX3_passDays 47 = .ok (.getfield 60, 3) := by decide +kernel
theorem dX3_passDays_50 : decode cX3_passDays 50 = .ok (.ireturn, 1) := by decide +kernel
theorem dX3_passDay_0 : decode cX3_passDay 0 = .ok (.aload_n 0, 1) := by decide +kernel
theorem dX3_passDay_1 : decode cX3_passDay 1 = .ok (.invokevirtual 98, 3) := by decide +kernel
theorem dX3_passDay_4 : decode cX3_passDay 4 = .ok (.aload_n 0, 1) := by decide +kernel
theorem dX3_passDay_5 : decode cX3_passDay 5 = .ok (.invokevirtual 101, 3) := by decide +kernel
theorem dX3_passDay_8 : decode cX3_passDay 8 = .ok (.iload_n 1, 1) := by decide +kernel
theorem dX3_passDay_9 : decode cX3_passDay 9 = .ok (.ifCond .ne 17, 3) := by decide +kernel
theorem dX3_passDay_12 : decode cX3_passDay 12 = .ok (.aload_n 0, 1) := by decide +kernel
theorem dX3_passDay_13 : decode cX3_passDay 13 = .ok (.getfield 32, 3) := by decide +kernel
theorem dX3_passDay_16 : decode cX3_passDay 16 = .ok (.aload_n 0, 1) := by decide +kernel
theorem dX3_passDay_17 : decode cX3_passDay 17 = .ok (.getfield 60, 3) := by decide +kernel
theorem dX3_passDay_20 : decode cX3_passDay 20 = .ok (.invokevirtual 104, 3) := by decide +kernel
theorem dX3_passDay_23 : decode cX3_passDay 23 = .ok (.ifCond .eq 16, 3) := by decide +kernel
theorem dX3_passDay_26 : decode cX3_passDay 26 = .ok (.aload_n 0, 1) := by decide +kernel
theorem dX3_passDay_27 : decode cX3_passDay 27 = .ok (.dup, 1) := by decide +kernel
theorem dX3_passDay_28 : decode cX3_passDay 28 = .ok (.getfield 70, 3) := by decide +kernel
theorem dX3_passDay_31 : decode cX3_passDay 31 = .ok (.iconst 1, 1) := by decide +kernel
theorem dX3_passDay_32 : decode cX3_passDay 32 = .ok (.iadd, 1) := by decide +kernel
theorem dX3_passDay_33 : decode cX3_passDay 33 = .ok (.putfield 70, 3) := by decide +kernel
theorem dX3_passDay_36 : decode cX3_passDay 36 = .ok (.goto 7, 3) := by decide +kernel
theorem dX3_passDay_39 : decode cX3_passDay 39 = .ok (.aload_n 0, 1) := by decide +kernel
theorem dX3_passDay_40 : decode cX3_passDay 40 = .ok (.invokevirtual 107, 3) := by decide +kernel
theorem dX3_passDay_43 : decode cX3_passDay 43 = .ok (.aload_n 0, 1) := by decide +kernel
theorem dX3_passDay_44 : decode cX3_passDay 44 = .ok (.dup, 1) := by decide +kernel
theorem dX3_passDay_45 : decode cX3_passDay 45 = .ok (.getfield 60, 3) := by decide +kernel
theorem dX3_passDay_48 : decode cX3_passDay 48 = .ok (.iconst 1, 1) := by decide +kernel
theorem dX3_passDay_49 : decode cX3_passDay 49 = .ok (.iadd, 1) := by decide +kernel
theorem dX3_passDay_50 : decode cX3_passDay 50 = .ok (.putfield 60, 3) := by decide +kernel
theorem dX3_passDay_53 : decode cX3_passDay 53 = .ok (.return_, 1) := by decide +kernel
theorem dX3_loseOldCane_0 : decode cX3_loseOldCane 0 = .ok (.iconst 0, 1) := by decide +kernel
theorem dX3_loseOldCane_1 : decode cX3_loseOldCane 1 = .ok (.istore_n 1, 1) := by decide +kernel
theorem dX3_loseOldCane_2 : decode cX3_loseOldCane 2 = .ok (.iload_n 1, 1) := by decide +kernel
theorem dX3_loseOldCane_3 : decode cX3_loseOldCane 3 = .ok (.aload_n 0, 1) := by decide +kernel
theorem dX3_loseOldCane_4 : decode cX3_loseOldCane 4 = .ok (.getfield 25, 3) := by decide +kernel
theorem dX3_loseOldCane_7 : decode cX3_loseOldCane 7 = .ok (.getfield 110, 3) := by decide +kernel
theorem dX3_loseOldCane_10 : decode cX3_loseOldCane 10 = .ok (.if_icmp .ge 60, 3) := by decide +kernel
theorem dX3_loseOldCane_13 : decode cX3_loseOldCane 13 = .ok (.aload_n 0, 1) := by decide +kernel
theorem dX3_loseOldCane_14 : decode cX3_loseOldCane 14 = .ok (.getfield 60, 3) := by decide +kernel
theorem dX3_loseOldCane_17 : decode cX3_loseOldCane 17 = .ok (.aload_n 0, 1) := by decide +kernel
theorem dX3_loseOldCane_18 : decode cX3_loseOldCane 18 = .ok (.getfield 25, 3) := by decide +kernel
theorem dX3_loseOldCane_21 : decode cX3_loseOldCane 21 = .ok (.getfield 113, 3) := by decide +kernel
theorem dX3_loseOldCane_24 : decode cX3_loseOldCane 24 = .ok (.iload_n 1, 1) := by decide +kernel
theorem dX3_loseOldCane_25 : decode cX3_loseOldCane 25 = .ok (.iaload, 1) := by decide +kernel
theorem dX3_loseOldCane_26 : decode cX3_loseOldCane 26 = .ok (.isub, 1) := by decide +kernel
theorem dX3_loseOldCane_27 : decode cX3_loseOldCane 27 = .ok (.aload_n 0, 1) := by decide +kernel
theorem dX3_loseOldCane_28 : decode cX3_loseOldCane 28 = .ok (.getfield 9, 3) := by decide +kernel
theorem dX3_loseOldCane_31 : decode cX3_loseOldCane 31 = .ok (.iconst 5, 1) := by decide +kernel
theorem dX3_loseOldCane_32 : decode cX3_loseOldCane 32 = .ok (.iaload, 1) := by decide +kernel
theorem dX3_loseOldCane_33 : decode cX3_loseOldCane 33 = .ok (.if_icmp .le 31, 3) := by decide +kernel
theorem dX3_loseOldCane_36 : decode cX3_loseOldCane 36 = .ok (.aload_n 0, 1) := by decide +kernel
theorem dX3_loseOldCane_37 : decode cX3_loseOldCane 37 = .ok (.getfield 18, 3) := by decide +kernel
theorem dX3_loseOldCane_40 : decode cX3_loseOldCane 40 = .ok (.getfield 116, 3) := by decide +kernel
theorem dX3_loseOldCane_43 : decode cX3_loseOldCane 43 = .ok (.aload_n 0, 1) := by decide +kernel
theorem dX3_loseOldCane_44 : decode cX3_loseOldCane 44 = .ok (.getfield 25, 3) := by decide +kernel
theorem dX3_loseOldCane_47 : decode cX3_loseOldCane 47 = .ok (.getfield 119, 3) := by decide +kernel
theorem dX3_loseOldCane_50 : decode cX3_loseOldCane 50 = .ok (.iload_n 1, 1) := by decide +kernel
theorem dX3_loseOldCane_51 : decode cX3_loseOldCane 51 = .ok (.iaload, 1) := by decide +kernel
theorem dX3_loseOldCane_52 : decode cX3_loseOldCane 52 = .ok (.dup2, 1) := by decide +kernel
theorem dX3_loseOldCane_53 : decode cX3_loseOldCane 53 = .ok (.iaload, 1) := by decide +kernel
theorem dX3_loseOldCane_54 : decode cX3_loseOldCane 54 = .ok (.aload_n 0, 1) := by decide +kernel
theorem dX3_loseOldCane_55 : decode cX3_loseOldCane 55 = .ok (.getfield 25, 3) := by decide +kernel
theorem dX3_loseOldCane_58 : decode cX3_loseOldCane 58 = .ok (.iload_n 1, 1) := by decide +kernel
theorem dX3_loseOldCane_59 : decode cX3_loseOldCane 59 = .ok (.invokevirtual 122, 3) := by decide +kernel
theorem dX3_loseOldCane_62 : decode cX3_loseOldCane 62 = .ok (.iadd, 1) := by decide +kernel
theorem dX3_loseOldCane_63 : decode cX3_loseOldCane 63 = .ok (.iastore, 1) := by decide +kernel
theorem dX3_loseOldCane_64 : decode cX3_loseOldCane 64 = .ok (.iinc 1 1, 3) := by decide +kernel
theorem dX3_loseOldCane_67 : decode cX3_loseOldCane 67 = .ok (.goto (-65), 3) := by decide +kernel
theorem dX3_loseOldCane_70 : decode cX3_loseOldCane 70 = .ok (.return_, 1) := by decide +kernel
theorem dX3_bringLoads_0 : decode cX3_bringLoads 0 = .ok (.iconst 0, 1) := by decide +kernel
theorem dX3_bringLoads_1 : decode cX3_bringLoads 1 = .ok (.istore_n 1, 1) := by decide +kernel
theorem dX3_bringLoads_2 : decode cX3_bringLoads 2 = .ok (.iload_n 1, 1) := by decide +kernel
theorem dX3_bringLoads_3 : decode cX3_bringLoads 3 = .ok (.aload_n 0, 1) := by decide +kernel
theorem dX3_bringLoads_4 : decode cX3_bringLoads 4 = .ok (.getfield 9, 3) := by decide +kernel
theorem dX3_bringLoads_7 : decode cX3_bringLoads 7 = .ok (.iconst 0, 1) := by decide +kernel
theorem dX3_bringLoads_8 : decode cX3_bringLoads 8 = .ok (.iaload, 1) := by decide +kernel
theorem dX3_bringLoads_9 : decode cX3_bringLoads 9 = .ok (.if_icmp .ge 26, 3) := by decide +kernel
theorem dX3_bringLoads_12 : decode cX3_bringLoads 12 = .ok (.aload_n 0, 1) := by decide +kernel
theorem dX3_bringLoads_13 : decode cX3_bringLoads 13 = .ok (.invokevirtual 126, 3) := by decide +kernel
theorem dX3_bringLoads_16 : decode cX3_bringLoads 16 = .ok (.istore_n 2, 1) := by decide +kernel
theorem dX3_bringLoads_17 : decode cX3_bringLoads 17 = .ok (.iload_n 2, 1) := by decide +kernel
theorem dX3_bringLoads_18 : decode cX3_bringLoads 18 = .ok (.bipush (-6), 2) := by decide +kernel
theorem dX3_bringLoads_20 : decode cX3_bringLoads 20 = .ok (.if_icmp .ne 4, 3) := by decide +kernel
theorem dX3_bringLoads_23 : decode cX3_bringLoads 23 = .ok (.return_, 1) := by decide +kernel
theorem dX3_bringLoads_24 : decode cX3_bringLoads 24 = .ok (.aload_n 0, 1) := by decide +kernel
theorem dX3_bringLoads_25 : decode cX3_bringLoads 25 = .ok (.iload_n 2, 1) := by decide +kernel
theorem dX3_bringLoads_26 : decode cX3_bringLoads 26 = .ok (.invokevirtual 130, 3) := by decide +kernel
theorem dX3_bringLoads_29 : decode cX3_bringLoads 29 = .ok (.iinc 1 1, 3) := by decide +kernel
theorem dX3_bringLoads_32 : decode cX3_bringLoads 32 = .ok (.goto (-30), 3) := by decide +kernel
theorem dX3_bringLoads_35 : decode cX3_bringLoads 35 = .ok (.return_, 1) := by decide +kernel
theorem dX3_nextField_0 : decode cX3_nextField 0 = .ok (.aload_n 0, 1) := by decide +kernel
theorem dX3_nextField_1 : decode cX3_nextField 1 = .ok (.invokevirtual 134, 3) := by decide +kernel
theorem dX3_nextField_4 : decode cX3_nextField 4 = .ok (.ifCond .gt 6, 3) := by decide +kernel
theorem dX3_nextField_7 : decode cX3_nextField 7 = .ok (.bipush (-6), 2) := by decide +kernel
theorem dX3_nextField_9 : decode cX3_nextField 9 = .ok (.ireturn, 1) := by decide +kernel
theorem dX3_nextField_10 : decode cX3_nextField 10 = .ok (.bipush (-6), 2) := by decide +kernel
theorem dX3_nextField_12 : decode cX3_nextField 12 = .ok (.istore_n 1, 1) := by decide +kernel
theorem dX3_nextField_13 : decode cX3_nextField 13 = .ok (.iconst 0, 1) := by decide +kernel
theorem dX3_nextField_14 : decode cX3_nextField 14 = .ok (.istore_n 2, 1) := by decide +kernel
theorem dX3_nextField_15 : decode cX3_nextField 15 = .ok (.iload_n 2, 1) := by decide +kernel
theorem dX3_nextField_16 : decode cX3_nextField 16 = .ok (.aload_n 0, 1) := by decide +kernel
theorem dX3_nextField_17 : decode cX3_nextField 17 = .ok (.getfield 25, 3) := by decide +kernel
theorem dX3_nextField_20 : decode cX3_nextField 20 = .ok (.getfield 110, 3) := by decide +kernel
theorem dX3_nextField_23 : decode cX3_nextField 23 = .ok (.if_icmp .ge 53, 3) := by decide +kernel
theorem dX3_nextField_26 : decode cX3_nextField 26 = .ok (.aload_n 0, 1) := by decide +kernel
theorem dX3_nextField_27 : decode cX3_nextField 27 = .ok (.getfield 25, 3) := by decide +kernel
theorem dX3_nextField_30 : decode cX3_nextField 30 = .ok (.iload_n 2, 1) := by decide +kernel
theorem dX3_nextField_31 : decode cX3_nextField 31 = .ok (.aload_n 0, 1) := by decide +kernel
theorem dX3_nextField_32 : decode cX3_nextField 32 = .ok (.getfield 60, 3) := by decide +kernel
theorem dX3_nextField_35 : decode cX3_nextField 35 = .ok (.invokevirtual 137, 3) := by decide +kernel
theorem dX3_nextField_38 : decode cX3_nextField 38 = .ok (.iconst 1, 1) := by decide +kernel
theorem dX3_nextField_39 : decode cX3_nextField 39 = .ok (.if_icmp .ne 31, 3) := by decide +kernel
theorem dX3_nextField_42 : decode cX3_nextField 42 = .ok (.aload_n 0, 1) := by decide +kernel
theorem dX3_nextField_43 : decode cX3_nextField 43 = .ok (.iload_n 2, 1) := by decide +kernel
theorem dX3_nextField_44 : decode cX3_nextField 44 = .ok (.invokevirtual 141, 3) := by decide +kernel
theorem dX3_nextField_47 : decode cX3_nextField 47 = .ok (.ifCond .gt 6, 3) := by decide +kernel
theorem dX3_nextField_50 : decode cX3_nextField 50 = .ok (.goto 20, 3) := by decide +kernel
theorem dX3_nextField_53 : decode cX3_nextField 53 = .ok (.iload_n 1, 1) := by decide +kernel
theorem dX3_nextField_54 : decode cX3_nextField 54 = .ok (.bipush (-6), 2) := by decide +kernel
theorem dX3_nextField_56 : decode cX3_nextField 56 = .ok (.if_icmp .eq 12, 3) := by decide +kernel
theorem dX3_nextField_59 : decode cX3_nextField 59 = .ok (.aload_n 0, 1) := by decide +kernel
theorem dX3_nextField_60 : decode cX3_nextField 60 = .ok (.iload_n 2, 1) := by decide +kernel
theorem dX3_nextField_61 : decode cX3_nextField 61 = .ok (.iload_n 1, 1) := by decide +kernel
theorem dX3_nextField_62 : decode cX3_nextField 62 = .ok (.invokevirtual 144, 3) := by decide +kernel
theorem dX3_nextField_65 : decode cX3_nextField 65 = .ok (.ifCond .eq 5, 3) := by decide +kernel
theorem dX3_nextField_68 : decode cX3_nextField 68 = .ok (.iload_n 2, 1) := by decide +kernel
theorem dX3_nextField_69 : decode cX3_nextField 69 = .ok (.istore_n 1, 1) := by decide +kernel
theorem dX3_nextField_70 : decode cX3_nextField 70 = .ok (.iinc 2 1, 3) := by decide +kernel
theorem dX3_nextField_73 : decode cX3_nextField 73 = .ok (.goto (-58), 3) := by decide +kernel
theorem dX3_nextField_76 : decode cX3_nextField 76 = .ok (.iload_n 1, 1) := by decide +kernel
theorem dX3_nextField_77 : decode cX3_nextField 77 = .ok (.ireturn, 1) := by decide +kernel
theorem dX3_goesAhead_0 : decode cX3_goesAhead 0 = .ok (.aload_n 0, 1) := by decide +kernel
theorem dX3_goesAhead_1 : decode cX3_goesAhead 1 = .ok (.getfield 25, 3) := by decide +kernel
theorem dX3_goesAhead_4 : decode cX3_goesAhead 4 = .ok (.getfield 113, 3) := by decide +kernel
theorem dX3_goesAhead_7 : decode cX3_goesAhead 7 = .ok (.astore_n 3, 1) := by decide +kernel
theorem dX3_goesAhead_8 : decode cX3_goesAhead 8 = .ok (.aload_n 0, 1) := by decide +kernel
theorem dX3_goesAhead_9 : decode cX3_goesAhead 9 = .ok (.getfield 25, 3) := by decide +kernel
theorem dX3_goesAhead_12 : decode cX3_goesAhead 12 = .ok (.getfield 119, 3) := by decide +kernel
theorem dX3_goesAhead_15 : decode cX3_goesAhead 15 = .ok (.astore 4, 2) := by decide +kernel
theorem dX3_goesAhead_17 : decode cX3_goesAhead 17 = .ok (.aload_n 3, 1) := by decide +kernel
theorem dX3_goesAhead_18 : decode cX3_goesAhead 18 = .ok (.iload_n 1, 1) := by decide +kernel
theorem dX3_goesAhead_19 : decode cX3_goesAhead 19 = .ok (.iaload, 1) := by decide +kernel
theorem dX3_goesAhead_20 : decode cX3_goesAhead 20 = .ok (.aload_n 3, 1) := by decide +kernel
theorem dX3_goesAhead_21 : decode cX3_goesAhead 21 = .ok (.iload_n 2, 1) := by decide +kernel
theorem dX3_goesAhead_22 : decode cX3_goesAhead 22 = .ok (.iaload, 1) := by decide +kernel
theorem dX3_goesAhead_23 : decode cX3_goesAhead 23 = .ok (.if_icmp .eq 18, 3) := by decide +kernel
theorem dX3_goesAhead_26 : decode cX3_goesAhead 26 = .ok (.aload_n 3, 1) := by decide +kernel
theorem dX3_goesAhead_27 : decode cX3_goesAhead 27 = .ok (.iload_n 1, 1) := by decide +kernel
theorem dX3_goesAhead_28 : decode cX3_goesAhead 28 = .ok (.iaload, 1) := by decide +kernel
theorem dX3_goesAhead_29 : decode cX3_goesAhead 29 = .ok (.aload_n 3, 1) := by decide +kernel
theorem dX3_goesAhead_30 : decode cX3_goesAhead 30 = .ok (.iload_n 2, 1) := by decide +kernel
theorem dX3_goesAhead_31 : decode cX3_goesAhead 31 = .ok (.iaload, 1) := by decide +kernel
theorem dX3_goesAhead_32 : decode cX3_goesAhead 32 = .ok (.if_icmp .ge 7, 3) := by decide +kernel
theorem dX3_goesAhead_35 : decode cX3_goesAhead 35 = .ok (.iconst 1, 1) := by decide +kernel
theorem dX3_goesAhead_36 : decode cX3_goesAhead 36 = .ok (.goto 4, 3) := by decide +kernel
theorem dX3_goesAhead_39 : decode cX3_goesAhead 39 = .ok (.iconst 0, 1) := by decide +kernel
theorem dX3_goesAhead_40 : decode cX3_goesAhead 40 = .ok (.ireturn, 1) := by decide +kernel
theorem dX3_goesAhead_41 : decode cX3_goesAhead 41 = .ok (.aload_n 0, 1) := by decide +kernel
theorem dX3_goesAhead_42 : decode cX3_goesAhead 42 = .ok (.getfield 18, 3) := by decide +kernel
theorem dX3_goesAhead_45 : decode cX3_goesAhead 45 = .ok (.getfield 87, 3) := by decide +kernel
theorem dX3_goesAhead_48 : decode cX3_goesAhead 48 = .ok (.aload 4, 2) := by decide +kernel
theorem dX3_goesAhead_50 : decode cX3_goesAhead 50 = .ok (.iload_n 1, 1) := by decide +kernel
theorem dX3_goesAhead_51 : decode cX3_goesAhead 51 = .ok (.iaload, 1) := by decide +kernel
theorem dX3_goesAhead_52 : decode cX3_goesAhead 52 = .ok (.iaload, 1) := by decide +kernel
theorem dX3_goesAhead_53 : decode cX3_goesAhead 53 = .ok (.aload_n 0, 1) := by decide +kernel
theorem dX3_goesAhead_54 : decode cX3_goesAhead 54 = .ok (.getfield 18, 3) := by decide +kernel
theorem dX3_goesAhead_57 : decode cX3_goesAhead 57 = .ok (.getfield 87, 3) := by decide +kernel
theorem dX3_goesAhead_60 : decode cX3_goesAhead 60 = .ok (.aload 4, 2) := by decide +kernel
theorem dX3_goesAhead_62 : decode cX3_goesAhead 62 = .ok (.iload_n 2, 1) := by decide +kernel
theorem dX3_goesAhead_63 : decode cX3_goesAhead 63 = .ok (.iaload, 1) := by decide +kernel
theorem dX3_goesAhead_64 : decode cX3_goesAhead 64 = .ok (.iaload, 1) := by decide +kernel
theorem dX3_goesAhead_65 : decode cX3_goesAhead 65 = .ok (.if_icmp .le 7, 3) := by decide +kernel
theorem dX3_goesAhead_68 : decode cX3_goesAhead 68 = .ok (.iconst 1, 1) := by decide +kernel
theorem dX3_goesAhead_69 : decode cX3_goesAhead 69 = .ok (.goto 4, 3) := by decide +kernel
theorem dX3_goesAhead_72 : decode cX3_goesAhead 72 = .ok (.iconst 0, 1) := by decide +kernel
theorem dX3_goesAhead_73 : decode cX3_goesAhead 73 = .ok (.ireturn, 1) := by decide +kernel
theorem dX3_quotaOf_0 : decode cX3_quotaOf 0 = .ok (.aload_n 0, 1) := by decide +kernel
theorem dX3_quotaOf_1 : decode cX3_quotaOf 1 = .ok (.getfield 18, 3) := by decide +kernel
theorem dX3_quotaOf_4 : decode cX3_quotaOf 4 = .ok (.getfield 87, 3) := by decide +kernel
theorem dX3_quotaOf_7 : decode cX3_quotaOf 7 = .ok (.aload_n 0, 1) := by decide +kernel

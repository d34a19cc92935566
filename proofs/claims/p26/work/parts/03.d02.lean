theorem dX3_quotaOf_8 : decode cX3_quotaOf 8 = .ok (.getfield 25, 3) := by decide +kernel
theorem dX3_quotaOf_11 : decode cX3_quotaOf 11 = .ok (.getfield 119, 3) := by decide +kernel
theorem dX3_quotaOf_14 : decode cX3_quotaOf 14 = .ok (.iload_n 1, 1) := by decide +kernel
theorem dX3_quotaOf_15 : decode cX3_quotaOf 15 = .ok (.iaload, 1) := by decide +kernel
theorem dX3_quotaOf_16 : decode cX3_quotaOf 16 = .ok (.iaload, 1) := by decide +kernel
theorem dX3_quotaOf_17 : decode cX3_quotaOf 17 = .ok (.ireturn, 1) := by decide +kernel
theorem dX3_room_0 : decode cX3_room 0 = .ok (.aload_n 0, 1) := by decide +kernel
theorem dX3_room_1 : decode cX3_room 1 = .ok (.getfield 39, 3) := by decide +kernel
theorem dX3_room_4 : decode cX3_room 4 = .ok (.getfield 148, 3) := by decide +kernel
theorem dX3_room_7 : decode cX3_room 7 = .ok (.sipush 400, 3) := by decide +kernel
theorem dX3_room_10 : decode cX3_room 10 = .ok (.if_icmp .ge 20, 3) := by decide +kernel
theorem dX3_room_13 : decode cX3_room 13 = .ok (.aload_n 0, 1) := by decide +kernel
theorem dX3_room_14 : decode cX3_room 14 = .ok (.getfield 9, 3) := by decide +kernel
theorem dX3_room_17 : decode cX3_room 17 = .ok (.iconst 3, 1) := by decide +kernel
theorem dX3_room_18 : decode cX3_room 18 = .ok (.iaload, 1) := by decide +kernel
theorem dX3_room_19 : decode cX3_room 19 = .ok (.aload_n 0, 1) := by decide +kernel
theorem dX3_room_20 : decode cX3_room 20 = .ok (.getfield 39, 3) := by decide +kernel
theorem dX3_room_23 : decode cX3_room 23 = .ok (.getfield 151, 3) := by decide +kernel
theorem dX3_room_26 : decode cX3_room 26 = .ok (.isub, 1) := by decide +kernel
theorem dX3_room_27 : decode cX3_room 27 = .ok (.goto 4, 3) := by decide +kernel
theorem dX3_room_30 : decode cX3_room 30 = .ok (.iconst 0, 1) := by decide +kernel
theorem dX3_room_31 : decode cX3_room 31 = .ok (.ireturn, 1) := by decide +kernel
theorem dX3_bringLoad_0 : decode cX3_bringLoad 0 = .ok (.aload_n 0, 1) := by decide +kernel
theorem dX3_bringLoad_1 : decode cX3_bringLoad 1 = .ok (.getfield 9, 3) := by decide +kernel
theorem dX3_bringLoad_4 : decode cX3_bringLoad 4 = .ok (.iconst 1, 1) := by decide +kernel
theorem dX3_bringLoad_5 : decode cX3_bringLoad 5 = .ok (.iaload, 1) := by decide +kernel
theorem dX3_bringLoad_6 : decode cX3_bringLoad 6 = .ok (.aload_n 0, 1) := by decide +kernel
theorem dX3_bringLoad_7 : decode cX3_bringLoad 7 = .ok (.getfield 25, 3) := by decide +kernel
theorem dX3_bringLoad_10 : decode cX3_bringLoad 10 = .ok (.getfield 154, 3) := by decide +kernel
theorem dX3_bringLoad_13 : decode cX3_bringLoad 13 = .ok (.iload_n 1, 1) := by decide +kernel
theorem dX3_bringLoad_14 : decode cX3_bringLoad 14 = .ok (.iaload, 1) := by decide +kernel
theorem dX3_bringLoad_15 : decode cX3_bringLoad 15 = .ok (.invokestatic 157, 3) := by decide +kernel
theorem dX3_bringLoad_18 : decode cX3_bringLoad 18 = .ok (.istore_n 2, 1) := by decide +kernel
theorem dX3_bringLoad_19 : decode cX3_bringLoad 19 = .ok (.iload_n 2, 1) := by decide +kernel
theorem dX3_bringLoad_20 : decode cX3_bringLoad 20 = .ok (.aload_n 0, 1) := by decide +kernel
theorem dX3_bringLoad_21 : decode cX3_bringLoad 21 = .ok (.iload_n 1, 1) := by decide +kernel
theorem dX3_bringLoad_22 : decode cX3_bringLoad 22 = .ok (.invokevirtual 141, 3) := by decide +kernel
theorem dX3_bringLoad_25 : decode cX3_bringLoad 25 = .ok (.aload_n 0, 1) := by decide +kernel
theorem dX3_bringLoad_26 : decode cX3_bringLoad 26 = .ok (.invokevirtual 134, 3) := by decide +kernel
theorem dX3_bringLoad_29 : decode cX3_bringLoad 29 = .ok (.invokestatic 157, 3) := by decide +kernel
theorem dX3_bringLoad_32 : decode cX3_bringLoad 32 = .ok (.invokestatic 157, 3) := by decide +kernel
theorem dX3_bringLoad_35 : decode cX3_bringLoad 35 = .ok (.istore_n 3, 1) := by decide +kernel
theorem dX3_bringLoad_36 : decode cX3_bringLoad 36 = .ok (.aload_n 0, 1) := by decide +kernel
theorem dX3_bringLoad_37 : decode cX3_bringLoad 37 = .ok (.getfield 25, 3) := by decide +kernel
theorem dX3_bringLoad_40 : decode cX3_bringLoad 40 = .ok (.getfield 119, 3) := by decide +kernel
theorem dX3_bringLoad_43 : decode cX3_bringLoad 43 = .ok (.iload_n 1, 1) := by decide +kernel
theorem dX3_bringLoad_44 : decode cX3_bringLoad 44 = .ok (.iaload, 1) := by decide +kernel
theorem dX3_bringLoad_45 : decode cX3_bringLoad 45 = .ok (.istore 4, 2) := by decide +kernel
theorem dX3_bringLoad_47 : decode cX3_bringLoad 47 = .ok (.aload_n 0, 1) := by decide +kernel
theorem dX3_bringLoad_48 : decode cX3_bringLoad 48 = .ok (.getfield 18, 3) := by decide +kernel
theorem dX3_bringLoad_51 : decode cX3_bringLoad 51 = .ok (.getfield 87, 3) := by decide +kernel
theorem dX3_bringLoad_54 : decode cX3_bringLoad 54 = .ok (.iload 4, 2) := by decide +kernel
theorem dX3_bringLoad_56 : decode cX3_bringLoad 56 = .ok (.dup2, 1) := by decide +kernel
theorem dX3_bringLoad_57 : decode cX3_bringLoad 57 = .ok (.iaload, 1) := by decide +kernel
theorem dX3_bringLoad_58 : decode cX3_bringLoad 58 = .ok (.iload_n 3, 1) := by decide +kernel
theorem dX3_bringLoad_59 : decode cX3_bringLoad 59 = .ok (.isub, 1) := by decide +kernel
theorem dX3_bringLoad_60 : decode cX3_bringLoad 60 = .ok (.iastore, 1) := by decide +kernel
theorem dX3_bringLoad_61 : decode cX3_bringLoad 61 = .ok (.aload_n 0, 1) := by decide +kernel
theorem dX3_bringLoad_62 : decode cX3_bringLoad 62 = .ok (.getfield 18, 3) := by decide +kernel
theorem dX3_bringLoad_65 : decode cX3_bringLoad 65 = .ok (.getfield 162, 3) := by decide +kernel
theorem dX3_bringLoad_68 : decode cX3_bringLoad 68 = .ok (.iload 4, 2) := by decide +kernel
theorem dX3_bringLoad_70 : decode cX3_bringLoad 70 = .ok (.dup2, 1) := by decide +kernel
theorem dX3_bringLoad_71 : decode cX3_bringLoad 71 = .ok (.iaload, 1) := by decide +kernel
theorem dX3_bringLoad_72 : decode cX3_bringLoad 72 = .ok (.iload_n 3, 1) := by decide +kernel
theorem dX3_bringLoad_73 : decode cX3_bringLoad 73 = .ok (.iadd, 1) := by decide +kernel
theorem dX3_bringLoad_74 : decode cX3_bringLoad 74 = .ok (.iastore, 1) := by decide +kernel
theorem dX3_bringLoad_75 : decode cX3_bringLoad 75 = .ok (.aload_n 0, 1) := by decide +kernel
theorem dX3_bringLoad_76 : decode cX3_bringLoad 76 = .ok (.getfield 25, 3) := by decide +kernel
theorem dX3_bringLoad_79 : decode cX3_bringLoad 79 = .ok (.getfield 154, 3) := by decide +kernel
theorem dX3_bringLoad_82 : decode cX3_bringLoad 82 = .ok (.iload_n 1, 1) := by decide +kernel
theorem dX3_bringLoad_83 : decode cX3_bringLoad 83 = .ok (.dup2, 1) := by decide +kernel
theorem dX3_bringLoad_84 : decode cX3_bringLoad 84 = .ok (.iaload, 1) := by decide +kernel
theorem dX3_bringLoad_85 : decode cX3_bringLoad 85 = .ok (.iload_n 3, 1) := by decide +kernel
theorem dX3_bringLoad_86 : decode cX3_bringLoad 86 = .ok (.isub, 1) := by decide +kernel
theorem dX3_bringLoad_87 : decode cX3_bringLoad 87 = .ok (.iastore, 1) := by decide +kernel
theorem dX3_bringLoad_88 : decode cX3_bringLoad 88 = .ok (.aload_n 0, 1) := by decide +kernel
theorem dX3_bringLoad_89 : decode cX3_bringLoad 89 = .ok (.getfield 25, 3) := by decide +kernel
theorem dX3_bringLoad_92 : decode cX3_bringLoad 92 = .ok (.getfield 165, 3) := by decide +kernel
theorem dX3_bringLoad_95 : decode cX3_bringLoad 95 = .ok (.iload_n 1, 1) := by decide +kernel
theorem dX3_bringLoad_96 : decode cX3_bringLoad 96 = .ok (.dup2, 1) := by decide +kernel
theorem dX3_bringLoad_97 : decode cX3_bringLoad 97 = .ok (.iaload, 1) := by decide +kernel
theorem dX3_bringLoad_98 : decode cX3_bringLoad 98 = .ok (.iload_n 3, 1) := by decide +kernel
theorem dX3_bringLoad_99 : decode cX3_bringLoad 99 = .ok (.iadd, 1) := by decide +kernel
theorem dX3_bringLoad_100 : decode cX3_bringLoad 100 = .ok (.iastore, 1) := by decide +kernel
theorem dX3_bringLoad_101 : decode cX3_bringLoad 101 = .ok (.aload_n 0, 1) := by decide +kernel
theorem dX3_bringLoad_102 : decode cX3_bringLoad 102 = .ok (.getfield 39, 3) := by decide +kernel
theorem dX3_bringLoad_105 : decode cX3_bringLoad 105 = .ok (.iload_n 1, 1) := by decide +kernel
theorem dX3_bringLoad_106 : decode cX3_bringLoad 106 = .ok (.iload_n 3, 1) := by decide +kernel
theorem dX3_bringLoad_107 : decode cX3_bringLoad 107 = .ok (.aload_n 0, 1) := by decide +kernel
theorem dX3_bringLoad_108 : decode cX3_bringLoad 108 = .ok (.getfield 60, 3) := by decide +kernel
theorem dX3_bringLoad_111 : decode cX3_bringLoad 111 = .ok (.invokevirtual 168, 3) := by decide +kernel
theorem dX3_bringLoad_114 : decode cX3_bringLoad 114 = .ok (.aload_n 0, 1) := by decide +kernel
theorem dX3_bringLoad_115 : decode cX3_bringLoad 115 = .ok (.dup, 1) := by decide +kernel
theorem dX3_bringLoad_116 : decode cX3_bringLoad 116 = .ok (.getfield 67, 3) := by decide +kernel
theorem dX3_bringLoad_119 : decode cX3_bringLoad 119 = .ok (.iconst 1, 1) := by decide +kernel
theorem dX3_bringLoad_120 : decode cX3_bringLoad 120 = .ok (.iadd, 1) := by decide +kernel
theorem dX3_bringLoad_121 : decode cX3_bringLoad 121 = .ok (.putfield 67, 3) := by decide +kernel
theorem dX3_bringLoad_124 : decode cX3_bringLoad 124 = .ok (.return_, 1) := by decide +kernel
theorem dX3_crush_0 : decode cX3_crush 0 = .ok (.aload_n 0, 1) := by decide +kernel
theorem dX3_crush_1 : decode cX3_crush 1 = .ok (.getfield 9, 3) := by decide +kernel
theorem dX3_crush_4 : decode cX3_crush 4 = .ok (.iconst 2, 1) := by decide +kernel
theorem dX3_crush_5 : decode cX3_crush 5 = .ok (.iaload, 1) := by decide +kernel
theorem dX3_crush_6 : decode cX3_crush 6 = .ok (.istore_n 1, 1) := by decide +kernel
theorem dX3_crush_7 : decode cX3_crush 7 = .ok (.iconst 0, 1) := by decide +kernel
theorem dX3_crush_8 : decode cX3_crush 8 = .ok (.istore_n 2, 1) := by decide +kernel
theorem dX3_crush_9 : decode cX3_crush 9 = .ok (.iconst 0, 1) := by decide +kernel
theorem dX3_crush_10 : decode cX3_crush 10 = .ok (.istore_n 3, 1) := by decide +kernel
theorem dX3_crush_11 : decode cX3_crush 11 = .ok (.iload_n 3, 1) := by decide +kernel
theorem dX3_crush_12 : decode cX3_crush 12 = .ok (.aload_n 0, 1) := by decide +kernel
theorem dX3_crush_13 : decode cX3_crush 13 = .ok (.getfield 39, 3) := by decide +kernel
theorem dX3_crush_16 : decode cX3_crush 16 = .ok (.getfield 148, 3) := by decide +kernel
theorem dX3_crush_19 : decode cX3_crush 19 = .ok (.if_icmp .ge 64, 3) := by decide +kernel
theorem dX3_crush_22 : decode cX3_crush 22 = .ok (.iload_n 1, 1) := by decide +kernel
theorem dX3_crush_23 : decode cX3_crush 23 = .ok (.ifCond .le 60, 3) := by decide +kernel
theorem dX3_crush_26 : decode cX3_crush 26 = .ok (.iload_n 1, 1) := by decide +kernel
theorem dX3_crush_27 : decode cX3_crush 27 = .ok (.aload_n 0, 1) := by decide +kernel
theorem dX3_crush_28 : decode cX3_crush 28 = .ok (.getfield 39, 3) := by decide +kernel
theorem dX3_crush_31 : decode cX3_crush 31 = .ok (.getfield 171, 3) := by decide +kernel
theorem dX3_crush_34 : decode cX3_crush 34 = .ok (.iload_n 3, 1) := by decide +kernel
theorem dX3_crush_35 : decode cX3_crush 35 = .ok (.iaload, 1) := by decide +kernel
theorem dX3_crush_36 : decode cX3_crush 36 = .ok (.invokestatic 157, 3) := by decide +kernel
theorem dX3_crush_39 : decode cX3_crush 39 = .ok (.istore 4, 2) := by decide +kernel
theorem dX3_crush_41 : decode cX3_crush 41 = .ok (.aload_n 0, 1) := by decide +kernel
theorem dX3_crush_42 : decode cX3_crush 42 = .ok (.aload_n 0, 1) := by decide +kernel
theorem dX3_crush_43 : decode cX3_crush 43 = .ok (.getfield 39, 3) := by decide +kernel
theorem dX3_crush_46 : decode cX3_crush 46 = .ok (.getfield 174, 3) := by decide +kernel
theorem dX3_crush_49 : decode cX3_crush 49 = .ok (.iload_n 3, 1) := by decide +kernel
theorem dX3_crush_50 : decode cX3_crush 50 = .ok (.iaload, 1) := by decide +kernel
theorem dX3_crush_51 : decode cX3_crush 51 = .ok (.iload 4, 2) := by decide +kernel
theorem dX3_crush_53 : decode cX3_crush 53 = .ok (.invokevirtual 177, 3) := by decide +kernel
theorem dX3_crush_56 : decode cX3_crush 56 = .ok (.iload_n 1, 1) := by decide +kernel
theorem dX3_crush_57 : decode cX3_crush 57 = .ok (.iload 4, 2) := by decide +kernel
theorem dX3_crush_59 : decode cX3_crush 59 = .ok (.isub, 1) := by decide +kernel
theorem dX3_crush_60 : decode cX3_crush 60 = .ok (.istore_n 1, 1) := by decide +kernel
theorem dX3_crush_61 : decode cX3_crush 61 = .ok (.aload_n 0, 1) := by decide +kernel
theorem dX3_crush_62 : decode cX3_crush 62 = .ok (.getfield 39, 3) := by decide +kernel
theorem dX3_crush_65 : decode cX3_crush 65 = .ok (.iload_n 3, 1) := by decide +kernel
theorem dX3_crush_66 : decode cX3_crush 66 = .ok (.iload 4, 2) := by decide +kernel
theorem dX3_crush_68 : decode cX3_crush 68 = .ok (.invokevirtual 181, 3) := by decide +kernel
theorem dX3_crush_71 : decode cX3_crush 71 = .ok (.ifCond .ne 6, 3) := by decide +kernel
theorem dX3_crush_74 : decode cX3_crush 74 = .ok (.iinc 2 1, 3) := by decide +kernel
theorem dX3_crush_77 : decode cX3_crush 77 = .ok (.iinc 3 1, 3) := by decide +kernel
theorem dX3_crush_80 : decode cX3_crush 80 = .ok (.goto (-69), 3) := by decide +kernel
theorem dX3_crush_83 : decode cX3_crush 83 = .ok (.aload_n 0, 1) := by decide +kernel
theorem dX3_crush_84 : decode cX3_crush 84 = .ok (.getfield 39, 3) := by decide +kernel
theorem dX3_crush_87 : decode cX3_crush 87 = .ok (.iload_n 2, 1) := by decide +kernel
theorem dX3_crush_88 : decode cX3_crush 88 = .ok (.invokevirtual 184, 3) := by decide +kernel
theorem dX3_crush_91 : decode cX3_crush 91 = .ok (.return_, 1) := by decide +kernel
theorem dX3_crushPart_0 : decode cX3_crushPart 0 = .ok (.aload_n 0, 1) := by decide +kernel
theorem dX3_crushPart_1 : decode cX3_crushPart 1 = .ok (.getfield 25, 3) := by decide +kernel
theorem dX3_crushPart_4 : decode cX3_crushPart 4 = .ok (.getfield 119, 3) := by decide +kernel
theorem dX3_crushPart_7 : decode cX3_crushPart 7 = .ok (.iload_n 1, 1) := by decide +kernel
theorem dX3_crushPart_8 : decode cX3_crushPart 8 = .ok (.iaload, 1) := by decide +kernel
theorem dX3_crushPart_9 : decode cX3_crushPart 9 = .ok (.istore_n 3, 1) := by decide +kernel
theorem dX3_crushPart_10 : decode cX3_crushPart 10 = .ok (.aload_n 0, 1) := by decide +kernel
theorem dX3_crushPart_11 : decode cX3_crushPart 11 = .ok (.getfield 25, 3) := by decide +kernel
theorem dX3_crushPart_14 : decode cX3_crushPart 14 = .ok (.iload_n 1, 1) := by decide +kernel
theorem dX3_crushPart_15 : decode cX3_crushPart 15 = .ok (.aload_n 0, 1) := by decide +kernel
theorem dX3_crushPart_16 : decode cX3_crushPart 16 = .ok (.getfield 60, 3) := by decide +kernel
theorem dX3_crushPart_19 : decode cX3_crushPart 19 = .ok (.aload_n 0, 1) := by decide +kernel
theorem dX3_crushPart_20 : decode cX3_crushPart 20 = .ok (.getfield 9, 3) := by decide +kernel
theorem dX3_crushPart_23 : decode cX3_crushPart 23 = .ok (.iconst 4, 1) := by decide +kernel
theorem dX3_crushPart_24 : decode cX3_crushPart 24 = .ok (.iaload, 1) := by decide +kernel
theorem dX3_crushPart_25 : decode cX3_crushPart 25 = .ok (.invokevirtual 187, 3) := by decide +kernel
theorem dX3_crushPart_28 : decode cX3_crushPart 28 = .ok (.istore 4, 2) := by decide +kernel
theorem dX3_crushPart_30 : decode cX3_crushPart 30 = .ok (.aload_n 0, 1) := by decide +kernel
theorem dX3_crushPart_31 : decode cX3_crushPart 31 = .ok (.dup, 1) := by decide +kernel
theorem dX3_crushPart_32 : decode cX3_crushPart 32 = .ok (.getfield 64, 3) := by decide +kernel
theorem dX3_crushPart_35 : decode cX3_crushPart 35 = .ok (.iload_n 2, 1) := by decide +kernel
theorem dX3_crushPart_36 : decode cX3_crushPart 36 = .ok (.iload 4, 2) := by decide +kernel
theorem dX3_crushPart_38 : decode cX3_crushPart 38 = .ok (.imul, 1) := by decide +kernel
theorem dX3_crushPart_39 : decode cX3_crushPart 39 = .ok (.bipush 100, 2) := by decide +kernel
theorem dX3_crushPart_41 : decode cX3_crushPart 41 = .ok (.idiv, 1) := by decide +kernel
theorem dX3_crushPart_42 : decode cX3_crushPart 42 = .ok (.iadd, 1) := by decide +kernel
theorem dX3_crushPart_43 : decode cX3_crushPart 43 = .ok (.putfield 64, 3) := by decide +kernel
theorem dX3_crushPart_46 : decode cX3_crushPart 46 = .ok (.aload_n 0, 1) := by decide +kernel
theorem dX3_crushPart_47 : decode cX3_crushPart 47 = .ok (.getfield 18, 3) := by decide +kernel
theorem dX3_crushPart_50 : decode cX3_crushPart 50 = .ok (.getfield 191, 3) := by decide +kernel
theorem dX3_crushPart_53 : decode cX3_crushPart 53 = .ok (.iload_n 3, 1) := by decide +kernel
theorem dX3_crushPart_54 : decode cX3_crushPart 54 = .ok (.dup2, 1) := by decide +kernel
theorem dX3_crushPart_55 : decode cX3_crushPart 55 = .ok (.iaload, 1) := by decide +kernel
theorem dX3_crushPart_56 : decode cX3_crushPart 56 = .ok (.iload_n 2, 1) := by decide +kernel
theorem dX3_crushPart_57 : decode cX3_crushPart 57 = .ok (.iload 4, 2) := by decide +kernel
theorem dX3_crushPart_59 : decode cX3_crushPart 59 = .ok (.imul, 1) := by decide +kernel
theorem dX3_crushPart_60 : decode cX3_crushPart 60 = .ok (.aload_n 0, 1) := by decide +kernel
theorem dX3_crushPart_61 : decode cX3_crushPart 61 = .ok (.getfield 9, 3) := by decide +kernel
theorem dX3_crushPart_64 : decode cX3_crushPart 64 = .ok (.bipush 6, 2) := by decide +kernel
theorem dX3_crushPart_66 : decode cX3_crushPart 66 = .ok (.iaload, 1) := by decide +kernel
theorem dX3_crushPart_67 : decode cX3_crushPart 67 = .ok (.imul, 1) := by decide +kernel
theorem dX3_crushPart_68 : decode cX3_crushPart 68 = .ok (.bipush 100, 2) := by decide +kernel
theorem dX3_crushPart_70 : decode cX3_crushPart 70 = .ok (.idiv, 1) := by decide +kernel
theorem dX3_crushPart_71 : decode cX3_crushPart 71 = .ok (.iadd, 1) := by decide +kernel
theorem dX3_crushPart_72 : decode cX3_crushPart 72 = .ok (.iastore, 1) := by decide +kernel
theorem dX3_crushPart_73 : decode cX3_crushPart 73 = .ok (.aload_n 0, 1) := by decide +kernel
theorem dX3_crushPart_74 : decode cX3_crushPart 74 = .ok (.getfield 18, 3) := by decide +kernel
theorem dX3_crushPart_77 : decode cX3_crushPart 77 = .ok (.getfield 194, 3) := by decide +kernel
theorem dX3_crushPart_80 : decode cX3_crushPart 80 = .ok (.iload_n 3, 1) := by decide +kernel
theorem dX3_crushPart_81 : decode cX3_crushPart 81 = .ok (.dup2, 1) := by decide +kernel
theorem dX3_crushPart_82 : decode cX3_crushPart 82 = .ok (.iaload, 1) := by decide +kernel
theorem dX3_crushPart_83 : decode cX3_crushPart 83 = .ok (.iload_n 2, 1) := by decide +kernel
theorem dX3_crushPart_84 : decode cX3_crushPart 84 = .ok (.iadd, 1) := by decide +kernel
theorem dX3_crushPart_85 : decode cX3_crushPart 85 = .ok (.iastore, 1) := by decide +kernel
theorem dX3_crushPart_86 : decode cX3_crushPart 86 = .ok (.aload_n 0, 1) := by decide +kernel
theorem dX3_crushPart_87 : decode cX3_crushPart 87 = .ok (.getfield 25, 3) := by decide +kernel
theorem dX3_crushPart_90 : decode cX3_crushPart 90 = .ok (.getfield 165, 3) := by decide +kernel
theorem dX3_crushPart_93 : decode cX3_crushPart 93 = .ok (.iload_n 1, 1) := by decide +kernel
theorem dX3_crushPart_94 : decode cX3_crushPart 94 = .ok (.dup2, 1) := by decide +kernel
theorem dX3_crushPart_95 : decode cX3_crushPart 95 = .ok (.iaload, 1) := by decide +kernel
theorem dX3_crushPart_96 : decode cX3_crushPart 96 = .ok (.iload_n 2, 1) := by decide +kernel
theorem dX3_crushPart_97 : decode cX3_crushPart 97 = .ok (.isub, 1) := by decide +kernel
theorem dX3_crushPart_98 : decode cX3_crushPart 98 = .ok (.iastore, 1) := by decide +kernel
theorem dX3_crushPart_99 : decode cX3_crushPart 99 = .ok (.aload_n 0, 1) := by decide +kernel
theorem dX3_crushPart_100 : decode cX3_crushPart 100 = .ok (.getfield 25, 3) := by decide +kernel
theorem dX3_crushPart_103 : decode cX3_crushPart 103 = .ok (.getfield 197, 3) := by decide +kernel
theorem dX3_crushPart_106 : decode cX3_crushPart 106 = .ok (.iload_n 1, 1) := by decide +kernel
theorem dX3_crushPart_107 : decode cX3_crushPart 107 = .ok (.dup2, 1) := by decide +kernel
theorem dX3_crushPart_108 : decode cX3_crushPart 108 = .ok (.iaload, 1) := by decide +kernel
theorem dX3_crushPart_109 : decode cX3_crushPart 109 = .ok (.iload_n 2, 1) := by decide +kernel
theorem dX3_crushPart_110 : decode cX3_crushPart 110 = .ok (.iadd, 1) := by decide +kernel
theorem dX3_crushPart_111 : decode cX3_crushPart 111 = .ok (.iastore, 1) := by decide +kernel
theorem dX3_crushPart_112 : decode cX3_crushPart 112 = .ok (.return_, 1) := by decide +kernel
theorem dX3_numberOfField_0 : decode cX3_numberOfField 0 = .ok (.iload_n 1, 1) := by decide +kernel
theorem dX3_numberOfField_1 : decode cX3_numberOfField 1 = .ok (.iconst 0, 1) := by decide +kernel
theorem dX3_numberOfField_2 : decode cX3_numberOfField 2 = .ok (.aload_n 0, 1) := by decide +kernel
theorem dX3_numberOfField_3 : decode cX3_numberOfField 3 = .ok (.getfield 25, 3) := by decide +kernel
theorem dX3_numberOfField_6 : decode cX3_numberOfField 6 = .ok (.getfield 110, 3) := by decide +kernel
theorem dX3_numberOfField_9 : decode cX3_numberOfField 9 = .ok (.iconst 1, 1) := by decide +kernel
theorem dX3_numberOfField_10 : decode cX3_numberOfField 10 = .ok (.isub, 1) := by decide +kernel
theorem dX3_numberOfField_11 : decode cX3_numberOfField 11 = .ok (.invokestatic 73, 3) := by decide +kernel
theorem dX3_numberOfField_14 : decode cX3_numberOfField 14 = .ok (.ifCond .ne 5, 3) := by decide +kernel
theorem dX3_numberOfField_17 : decode cX3_numberOfField 17 = .ok (.iconst (-1), 1) := by decide +kernel
theorem dX3_numberOfField_18 : decode cX3_numberOfField 18 = .ok (.ireturn, 1) := by decide +kernel
theorem dX3_numberOfField_19 : decode cX3_numberOfField 19 = .ok (.iload_n 2, 1) := by decide +kernel
theorem dX3_numberOfField_20 : decode cX3_numberOfField 20 = .ok (.tableswitch 168 0 9 #[56, 66, 76, 86, 96, 109, 119, 129, 139, 149], 56) := by decide +kernel
theorem dX3_numberOfField_76 : decode cX3_numberOfField 76 = .ok (.aload_n 0, 1) := by decide +kernel
theorem dX3_numberOfField_77 : decode cX3_numberOfField 77 = .ok (.getfield 25, 3) := by decide +kernel
theorem dX3_numberOfField_80 : decode cX3_numberOfField 80 = .ok (.getfield 119, 3) := by decide +kernel
theorem dX3_numberOfField_83 : decode cX3_numberOfField 83 = .ok (.iload_n 1, 1) := by decide +kernel
theorem dX3_numberOfField_84 : decode cX3_numberOfField 84 = .ok (.iaload, 1) := by decide +kernel
theorem dX3_numberOfField_85 : decode cX3_numberOfField 85 = .ok (.ireturn, 1) := by decide +kernel
theorem dX3_numberOfField_86 : decode cX3_numberOfField 86 = .ok (.aload_n 0, 1) := by decide +kernel
theorem dX3_numberOfField_87 : decode cX3_numberOfField 87 = .ok (.getfield 25, 3) := by decide +kernel
theorem dX3_numberOfField_90 : decode cX3_numberOfField 90 = .ok (.getfield 198, 3) := by decide +kernel
theorem dX3_numberOfField_93 : decode cX3_numberOfField 93 = .ok (.iload_n 1, 1) := by decide +kernel
theorem dX3_numberOfField_94 : decode cX3_numberOfField 94 = .ok (.iaload, 1) := by decide +kernel
theorem dX3_numberOfField_95 : decode cX3_numberOfField 95 = .ok (.ireturn, 1) := by decide +kernel
theorem dX3_numberOfField_96 : decode cX3_numberOfField 96 = .ok (.aload_n 0, 1) := by decide +kernel
theorem dX3_numberOfField_97 : decode cX3_numberOfField 97 = .ok (.getfield 25, 3) := by decide +kernel
theorem dX3_numberOfField_100 : decode cX3_numberOfField 100 = .ok (.getfield 199, 3) := by decide +kernel
theorem dX3_numberOfField_103 : decode cX3_numberOfField 103 = .ok (.iload_n 1, 1) := by decide +kernel
theorem dX3_numberOfField_104 : decode cX3_numberOfField 104 = .ok (.iaload, 1) := by decide +kernel
theorem dX3_numberOfField_105 : decode cX3_numberOfField 105 = .ok (.ireturn, 1) := by decide +kernel
theorem dX3_numberOfField_106 : decode cX3_numberOfField 106 = .ok (.aload_n 0, 1) := by decide +kernel
theorem dX3_numberOfField_107 : decode cX3_numberOfField 107 = .ok (.getfield 25, 3) := by decide +kernel
theorem dX3_numberOfField_110 : decode cX3_numberOfField 110 = .ok (.getfield 113, 3) := by decide +kernel
theorem dX3_numberOfField_113 : decode cX3_numberOfField 113 = .ok (.iload_n 1, 1) := by decide +kernel
theorem dX3_numberOfField_114 : decode cX3_numberOfField 114 = .ok (.iaload, 1) := by decide +kernel
theorem dX3_numberOfField_115 : decode cX3_numberOfField 115 = .ok (.ireturn, 1) := by decide +kernel
theorem dX3_numberOfField_116 : decode cX3_numberOfField 116 = .ok (.aload_n 0, 1) := by decide +kernel
theorem dX3_numberOfField_117 : decode cX3_numberOfField 117 = .ok (.getfield 25, 3) := by decide +kernel
theorem dX3_numberOfField_120 : decode cX3_numberOfField 120 = .ok (.iload_n 1, 1) := by decide +kernel
theorem dX3_numberOfField_121 : decode cX3_numberOfField 121 = .ok (.aload_n 0, 1) := by decide +kernel
theorem dX3_numberOfField_122 : decode cX3_numberOfField 122 = .ok (.getfield 60, 3) := by decide +kernel
theorem dX3_numberOfField_125 : decode cX3_numberOfField 125 = .ok (.invokevirtual 137, 3) := by decide +kernel
theorem dX3_numberOfField_128 : decode cX3_numberOfField 128 = .ok (.ireturn, 1) := by decide +kernel
theorem dX3_numberOfField_129 : decode cX3_numberOfField 129 = .ok (.aload_n 0, 1) := by decide +kernel
theorem dX3_numberOfField_130 : decode cX3_numberOfField 130 = .ok (.getfield 25, 3) := by decide +kernel
theorem dX3_numberOfField_133 : decode cX3_numberOfField 133 = .ok (.getfield 154, 3) := by decide +kernel
theorem dX3_numberOfField_136 : decode cX3_numberOfField 136 = .ok (.iload_n 1, 1) := by decide +kernel
theorem dX3_numberOfField_137 : decode cX3_numberOfField 137 = .ok (.iaload, 1) := by decide +kernel
theorem dX3_numberOfField_138 : decode cX3_numberOfField 138 = .ok (.ireturn, 1) := by decide +kernel
theorem dX3_numberOfField_139 : decode cX3_numberOfField 139 = .ok (.aload_n 0, 1) := by decide +kernel
theorem dX3_numberOfField_140 : decode cX3_numberOfField 140 = .ok (.getfield 25, 3) := by decide +kernel
theorem dX3_numberOfField_143 : decode cX3_numberOfField 143 = .ok (.getfield 165, 3) := by decide +kernel
theorem dX3_numberOfField_146 : decode cX3_numberOfField 146 = .ok (.iload_n 1, 1) := by decide +kernel
theorem dX3_numberOfField_147 : decode cX3_numberOfField 147 = .ok (.iaload, 1) := by decide +kernel
theorem dX3_numberOfField_148 : decode cX3_numberOfField 148 = .ok (.ireturn, 1) := by decide +kernel
theorem dX3_numberOfField_149 : decode cX3_numberOfField 149 = .ok (.aload_n 0, 1) := by decide +kernel
theorem dX3_numberOfField_150 : decode cX3_numberOfField 150 = .ok (.getfield 25, 3) := by decide +kernel
theorem dX3_numberOfField_153 : decode cX3_numberOfField 153 = .ok (.getfield 197, 3) := by decide +kernel
theorem dX3_numberOfField_156 : decode cX3_numberOfField 156 = .ok (.iload_n 1, 1) := by decide +kernel
theorem dX3_numberOfField_157 : decode cX3_numberOfField 157 = .ok (.iaload, 1) := by decide +kernel
theorem dX3_numberOfField_158 : decode cX3_numberOfField 158 = .ok (.ireturn, 1) := by decide +kernel
theorem dX3_numberOfField_159 : decode cX3_numberOfField 159 = .ok (.aload_n 0, 1) := by decide +kernel
theorem dX3_numberOfField_160 : decode cX3_numberOfField 160 = .ok (.getfield 25, 3) := by decide +kernel
theorem dX3_numberOfField_163 : decode cX3_numberOfField 163 = .ok (.getfield 202, 3) := by decide +kernel
theorem dX3_numberOfField_166 : decode cX3_numberOfField 166 = .ok (.iload_n 1, 1) := by decide +kernel
theorem dX3_numberOfField_167 : decode cX3_numberOfField 167 = .ok (.iaload, 1) := by decide +kernel
theorem dX3_numberOfField_168 : decode cX3_numberOfField 168 = .ok (.ireturn, 1) := by decide +kernel
theorem dX3_numberOfField_169 : decode cX3_numberOfField 169 = .ok (.aload_n 0, 1) := by decide +kernel
theorem dX3_numberOfField_170 : decode cX3_numberOfField 170 = .ok (.getfield 25, 3) := by decide +kernel
theorem dX3_numberOfField_173 : decode cX3_numberOfField 173 = .ok (.iload_n 1, 1) := by decide +kernel
theorem dX3_numberOfField_174 : decode cX3_numberOfField 174 = .ok (.aload_n 0, 1) := by decide +kernel
theorem dX3_numberOfField_175 : decode cX3_numberOfField 175 = .ok (.getfield 60, 3) := by decide +kernel
theorem dX3_numberOfField_178 : decode cX3_numberOfField 178 = .ok (.aload_n 0, 1) := by decide +kernel
theorem dX3_numberOfField_179 : decode cX3_numberOfField 179 = .ok (.getfield 9, 3) := by decide +kernel
theorem dX3_numberOfField_182 : decode cX3_numberOfField 182 = .ok (.iconst 4, 1) := by decide +kernel
theorem dX3_numberOfField_183 : decode cX3_numberOfField 183 = .ok (.iaload, 1) := by decide +kernel
theorem dX3_numberOfField_184 : decode cX3_numberOfField 184 = .ok (.invokevirtual 187, 3) := by decide +kernel
theorem dX3_numberOfField_187 : decode cX3_numberOfField 187 = .ok (.ireturn, 1) := by decide +kernel
theorem dX3_numberOfField_188 : decode cX3_numberOfField 188 = .ok (.bipush (-2), 2) := by decide +kernel
theorem dX3_numberOfField_190 : decode cX3_numberOfField 190 = .ok (.ireturn, 1) := by decide +kernel
theorem dX3_numberOfGrower_0 : decode cX3_numberOfGrower 0 = .ok (.iload_n 1, 1) := by decide +kernel
theorem dX3_numberOfGrower_1 : decode cX3_numberOfGrower 1 = .ok (.invokestatic 83, 3) := by decide +kernel
theorem dX3_numberOfGrower_4 : decode cX3_numberOfGrower 4 = .ok (.ifCond .ne 5, 3) := by decide +kernel
theorem dX3_numberOfGrower_7 : decode cX3_numberOfGrower 7 = .ok (.iconst (-1), 1) := by decide +kernel
theorem dX3_numberOfGrower_8 : decode cX3_numberOfGrower 8 = .ok (.ireturn, 1) := by decide +kernel
theorem dX3_numberOfGrower_9 : decode cX3_numberOfGrower 9 = .ok (.iload_n 2, 1) := by decide +kernel
theorem dX3_numberOfGrower_10 : decode cX3_numberOfGrower 10 = .ok (.tableswitch 101 0 5 #[38, 48, 58, 68, 78, 88], 38) := by decide +kernel
theorem dX3_numberOfGrower_48 : decode cX3_numberOfGrower 48 = .ok (.aload_n 0, 1) := by decide +kernel
theorem dX3_numberOfGrower_49 : decode cX3_numberOfGrower 49 = .ok (.getfield 18, 3) := by decide +kernel
theorem dX3_numberOfGrower_52 : decode cX3_numberOfGrower 52 = .ok (.getfield 87, 3) := by decide +kernel
theorem dX3_numberOfGrower_55 : decode cX3_numberOfGrower 55 = .ok (.iload_n 1, 1) := by decide +kernel
theorem dX3_numberOfGrower_56 : decode cX3_numberOfGrower 56 = .ok (.iaload, 1) := by decide +kernel
theorem dX3_numberOfGrower_57 : decode cX3_numberOfGrower 57 = .ok (.ireturn, 1) := by decide +kernel
theorem dX3_numberOfGrower_58 : decode cX3_numberOfGrower 58 = .ok (.aload_n 0, 1) := by decide +kernel
theorem dX3_numberOfGrower_59 : decode cX3_numberOfGrower 59 = .ok (.getfield 18, 3) := by decide +kernel
theorem dX3_numberOfGrower_62 : decode cX3_numberOfGrower 62 = .ok (.getfield 162, 3) := by decide +kernel
theorem dX3_numberOfGrower_65 : decode cX3_numberOfGrower 65 = .ok (.iload_n 1, 1) := by decide +kernel
theorem dX3_numberOfGrower_66 : decode cX3_numberOfGrower 66 = .ok (.iaload, 1) := by decide +kernel
theorem dX3_numberOfGrower_67 : decode cX3_numberOfGrower 67 = .ok (.ireturn, 1) := by decide +kernel
theorem dX3_numberOfGrower_68 : decode cX3_numberOfGrower 68 = .ok (.aload_n 0, 1) := by decide +kernel
theorem dX3_numberOfGrower_69 : decode cX3_numberOfGrower 69 = .ok (.getfield 18, 3) := by decide +kernel
theorem dX3_numberOfGrower_72 : decode cX3_numberOfGrower 72 = .ok (.getfield 194, 3) := by decide +kernel
theorem dX3_numberOfGrower_75 : decode cX3_numberOfGrower 75 = .ok (.iload_n 1, 1) := by decide +kernel
theorem dX3_numberOfGrower_76 : decode cX3_numberOfGrower 76 = .ok (.iaload, 1) := by decide +kernel
theorem dX3_numberOfGrower_77 : decode cX3_numberOfGrower 77 = .ok (.ireturn, 1) := by decide +kernel
theorem dX3_numberOfGrower_78 : decode cX3_numberOfGrower 78 = .ok (.aload_n 0, 1) := by decide +kernel
theorem dX3_numberOfGrower_79 : decode cX3_numberOfGrower 79 = .ok (.getfield 18, 3) := by decide +kernel
theorem dX3_numberOfGrower_82 : decode cX3_numberOfGrower 82 = .ok (.getfield 116, 3) := by decide +kernel
theorem dX3_numberOfGrower_85 : decode cX3_numberOfGrower 85 = .ok (.iload_n 1, 1) := by decide +kernel
theorem dX3_numberOfGrower_86 : decode cX3_numberOfGrower 86 = .ok (.iaload, 1) := by decide +kernel
theorem dX3_numberOfGrower_87 : decode cX3_numberOfGrower 87 = .ok (.ireturn, 1) := by decide +kernel
theorem dX3_numberOfGrower_88 : decode cX3_numberOfGrower 88 = .ok (.aload_n 0, 1) := by decide +kernel
theorem dX3_numberOfGrower_89 : decode cX3_numberOfGrower 89 = .ok (.getfield 18, 3) := by decide +kernel
theorem dX3_numberOfGrower_92 : decode cX3_numberOfGrower 92 = .ok (.getfield 191, 3) := by decide +kernel
theorem dX3_numberOfGrower_95 : decode cX3_numberOfGrower 95 = .ok (.iload_n 1, 1) := by decide +kernel
theorem dX3_numberOfGrower_96 : decode cX3_numberOfGrower 96 = .ok (.iaload, 1) := by decide +kernel
theorem dX3_numberOfGrower_97 : decode cX3_numberOfGrower 97 = .ok (.ireturn, 1) := by decide +kernel
theorem dX3_numberOfGrower_98 : decode cX3_numberOfGrower 98 = .ok (.aload_n 0, 1) := by decide +kernel
theorem dX3_numberOfGrower_99 : decode cX3_numberOfGrower 99 = .ok (.getfield 25, 3) := by decide +kernel
theorem dX3_numberOfGrower_102 : decode cX3_numberOfGrower 102 = .ok (.iload_n 1, 1) := by decide +kernel
theorem dX3_numberOfGrower_103 : decode cX3_numberOfGrower 103 = .ok (.aload_n 0, 1) := by decide +kernel
theorem dX3_numberOfGrower_104 : decode cX3_numberOfGrower 104 = .ok (.getfield 60, 3) := by decide +kernel
theorem dX3_numberOfGrower_107 : decode cX3_numberOfGrower 107 = .ok (.invokevirtual 203, 3) := by decide +kernel
theorem dX3_numberOfGrower_110 : decode cX3_numberOfGrower 110 = .ok (.ireturn, 1) := by decide +kernel
theorem dX3_numberOfGrower_111 : decode cX3_numberOfGrower 111 = .ok (.bipush (-2), 2) := by decide +kernel
theorem dX3_numberOfGrower_113 : decode cX3_numberOfGrower 113 = .ok (.ireturn, 1) := by decide +kernel
theorem dX3_numberOfAll_0 : decode cX3_numberOfAll 0 = .ok (.iload_n 1, 1) := by decide +kernel
theorem dX3_numberOfAll_1 : decode cX3_numberOfAll 1 = .ok (.bipush 11, 2) := by decide +kernel
theorem dX3_numberOfAll_3 : decode cX3_numberOfAll 3 = .ok (.bipush 17, 2) := by decide +kernel
theorem dX3_numberOfAll_5 : decode cX3_numberOfAll 5 = .ok (.invokestatic 73, 3) := by decide +kernel
theorem dX3_numberOfAll_8 : decode cX3_numberOfAll 8 = .ok (.ifCond .eq 13, 3) := by decide +kernel
theorem dX3_numberOfAll_11 : decode cX3_numberOfAll 11 = .ok (.aload_n 0, 1) := by decide +kernel
theorem dX3_numberOfAll_12 : decode cX3_numberOfAll 12 = .ok (.getfield 9, 3) := by decide +kernel
theorem dX3_numberOfAll_15 : decode cX3_numberOfAll 15 = .ok (.iload_n 1, 1) := by decide +kernel
theorem dX3_numberOfAll_16 : decode cX3_numberOfAll 16 = .ok (.bipush 11, 2) := by decide +kernel
theorem dX3_numberOfAll_18 : decode cX3_numberOfAll 18 = .ok (.isub, 1) := by decide +kernel
theorem dX3_numberOfAll_19 : decode cX3_numberOfAll 19 = .ok (.iaload, 1) := by decide +kernel
theorem dX3_numberOfAll_20 : decode cX3_numberOfAll 20 = .ok (.ireturn, 1) := by decide +kernel
theorem dX3_numberOfAll_21 : decode cX3_numberOfAll 21 = .ok (.iload_n 1, 1) := by decide +kernel
theorem dX3_numberOfAll_22 : decode cX3_numberOfAll 22 = .ok (.tableswitch 134 0 10 #[58, 63, 71, 79, 87, 95, 103, 108, 116, 124, 129], 58) := by decide +kernel
theorem dX3_numberOfAll_80 : decode cX3_numberOfAll 80 = .ok (.aload_n 0, 1) := by decide +kernel
theorem dX3_numberOfAll_81 : decode cX3_numberOfAll 81 = .ok (.getfield 60, 3) := by decide +kernel
theorem dX3_numberOfAll_84 : decode cX3_numberOfAll 84 = .ok (.ireturn, 1) := by decide +kernel
theorem dX3_numberOfAll_85 : decode cX3_numberOfAll 85 = .ok (.aload_n 0, 1) := by decide +kernel
theorem dX3_numberOfAll_86 : decode cX3_numberOfAll 86 = .ok (.getfield 25, 3) := by decide +kernel
theorem dX3_numberOfAll_89 : decode cX3_numberOfAll 89 = .ok (.getfield 110, 3) := by decide +kernel
theorem dX3_numberOfAll_92 : decode cX3_numberOfAll 92 = .ok (.ireturn, 1) := by decide +kernel
theorem dX3_numberOfAll_93 : decode cX3_numberOfAll 93 = .ok (.aload_n 0, 1) := by decide +kernel
theorem dX3_numberOfAll_94 : decode cX3_numberOfAll 94 = .ok (.getfield 32, 3) := by decide +kernel
theorem dX3_numberOfAll_97 : decode cX3_numberOfAll 97 = .ok (.getfield 206, 3) := by decide +kernel
theorem dX3_numberOfAll_100 : decode cX3_numberOfAll 100 = .ok (.ireturn, 1) := by decide +kernel
theorem dX3_numberOfAll_101 : decode cX3_numberOfAll 101 = .ok (.aload_n 0, 1) := by decide +kernel
theorem dX3_numberOfAll_102 : decode cX3_numberOfAll 102 = .ok (.getfield 39, 3) := by decide +kernel
theorem dX3_numberOfAll_105 : decode cX3_numberOfAll 105 = .ok (.getfield 151, 3) := by decide +kernel
theorem dX3_numberOfAll_108 : decode cX3_numberOfAll 108 = .ok (.ireturn, 1) := by decide +kernel
theorem dX3_numberOfAll_109 : decode cX3_numberOfAll 109 = .ok (.aload_n 0, 1) := by decide +kernel
theorem dX3_numberOfAll_110 : decode cX3_numberOfAll 110 = .ok (.getfield 39, 3) := by decide +kernel
theorem dX3_numberOfAll_113 : decode cX3_numberOfAll 113 = .ok (.getfield 148, 3) := by decide +kernel
theorem dX3_numberOfAll_116 : decode cX3_numberOfAll 116 = .ok (.ireturn, 1) := by decide +kernel
theorem dX3_numberOfAll_117 : decode cX3_numberOfAll 117 = .ok (.aload_n 0, 1) := by decide +kernel
theorem dX3_numberOfAll_118 : decode cX3_numberOfAll 118 = .ok (.getfield 18, 3) := by decide +kernel
theorem dX3_numberOfAll_121 : decode cX3_numberOfAll 121 = .ok (.invokevirtual 207, 3) := by decide +kernel
theorem dX3_numberOfAll_124 : decode cX3_numberOfAll 124 = .ok (.ireturn, 1) := by decide +kernel
theorem dX3_numberOfAll_125 : decode cX3_numberOfAll 125 = .ok (.aload_n 0, 1) := by decide +kernel
theorem dX3_numberOfAll_126 : decode cX3_numberOfAll 126 = .ok (.getfield 64, 3) := by decide +kernel
theorem dX3_numberOfAll_129 : decode cX3_numberOfAll 129 = .ok (.ireturn, 1) := by decide +kernel
theorem dX3_numberOfAll_130 : decode cX3_numberOfAll 130 = .ok (.aload_n 0, 1) := by decide +kernel
theorem dX3_numberOfAll_131 : decode cX3_numberOfAll 131 = .ok (.getfield 18, 3) := by decide +kernel
theorem dX3_numberOfAll_134 : decode cX3_numberOfAll 134 = .ok (.invokevirtual 210, 3) := by decide +kernel
theorem dX3_numberOfAll_137 : decode cX3_numberOfAll 137 = .ok (.ireturn, 1) := by decide +kernel
theorem dX3_numberOfAll_138 : decode cX3_numberOfAll 138 = .ok (.aload_n 0, 1) := by decide +kernel
theorem dX3_numberOfAll_139 : decode cX3_numberOfAll 139 = .ok (.getfield 18, 3) := by decide +kernel
theorem dX3_numberOfAll_142 : decode cX3_numberOfAll 142 = .ok (.invokevirtual 213, 3) := by decide +kernel
theorem dX3_numberOfAll_145 : decode cX3_numberOfAll 145 = .ok (.ireturn, 1) := by decide +kernel
theorem dX3_numberOfAll_146 : decode cX3_numberOfAll 146 = .ok (.aload_n 0, 1) := by decide +kernel
theorem dX3_numberOfAll_147 : decode cX3_numberOfAll 147 = .ok (.getfield 67, 3) := by decide +kernel
theorem dX3_numberOfAll_150 : decode cX3_numberOfAll 150 = .ok (.ireturn, 1) := by decide +kernel
theorem dX3_numberOfAll_151 : decode cX3_numberOfAll 151 = .ok (.aload_n 0, 1) := by decide +kernel
theorem dX3_numberOfAll_152 : decode cX3_numberOfAll 152 = .ok (.getfield 70, 3) := by decide +kernel
theorem dX3_numberOfAll_155 : decode cX3_numberOfAll 155 = .ok (.ireturn, 1) := by decide +kernel
theorem dX3_numberOfAll_156 : decode cX3_numberOfAll 156 = .ok (.bipush (-2), 2) := by decide +kernel
theorem dX3_numberOfAll_158 : decode cX3_numberOfAll 158 = .ok (.ireturn, 1) := by decide +kernel
theorem dX4_init_0 : decode cX4_init 0 = .ok (.aload_n 0, 1) := by decide +kernel
theorem dX4_init_1 : decode cX4_init 1 = .ok (.invokespecial 3, 3) := by decide +kernel
theorem dX4_init_4 : decode cX4_init 4 = .ok (.aload_n 0, 1) := by decide +kernel
theorem dX4_init_5 : decode cX4_init 5 = .ok (.bipush 80, 2) := by decide +kernel
theorem dX4_init_7 : decode cX4_init 7 = .ok (.newarray .char, 2) := by decide +kernel
theorem dX4_init_9 : decode cX4_init 9 = .ok (.putfield 9, 3) := by decide +kernel
theorem dX4_init_12 : decode cX4_init 12 = .ok (.aload_n 0, 1) := by decide +kernel
theorem dX4_init_13 : decode cX4_init 13 = .ok (.iconst 4, 1) := by decide +kernel
theorem dX4_init_14 : decode cX4_init 14 = .ok (.newarray .int, 2) := by decide +kernel
theorem dX4_init_16 : decode cX4_init 16 = .ok (.putfield 15, 3) := by decide +kernel
theorem dX4_init_19 : decode cX4_init 19 = .ok (.return_, 1) := by decide +kernel
theorem dX5_init_0 : decode cX5_init 0 = .ok (.aload_n 0, 1) := by decide +kernel
theorem dX5_init_1 : decode cX5_init 1 = .ok (.invokespecial 3, 3) := by decide +kernel
theorem dX5_init_4 : decode cX5_init 4 = .ok (.aload_n 0, 1) := by decide +kernel
theorem dX5_init_5 : decode cX5_init 5 = .ok (.iconst 5, 1) := by decide +kernel
theorem dX5_init_6 : decode cX5_init 6 = .ok (.newarray .int, 2) := by decide +kernel
theorem dX5_init_8 : decode cX5_init 8 = .ok (.putfield 9, 3) := by decide +kernel
theorem dX5_init_11 : decode cX5_init 11 = .ok (.aload_n 0, 1) := by decide +kernel
theorem dX5_init_12 : decode cX5_init 12 = .ok (.iconst 5, 1) := by decide +kernel
theorem dX5_init_13 : decode cX5_init 13 = .ok (.newarray .int, 2) := by decide +kernel
theorem dX5_init_15 : decode cX5_init 15 = .ok (.putfield 15, 3) := by decide +kernel
theorem dX5_init_18 : decode cX5_init 18 = .ok (.return_, 1) := by decide +kernel
theorem dX5_copyFrom_0 : decode cX5_copyFrom 0 = .ok (.aload_n 0, 1) := by decide +kernel
theorem dX5_copyFrom_1 : decode cX5_copyFrom 1 = .ok (.aload_n 1, 1) := by decide +kernel
theorem dX5_copyFrom_2 : decode cX5_copyFrom 2 = .ok (.getfield 18, 3) := by decide +kernel
theorem dX5_copyFrom_5 : decode cX5_copyFrom 5 = .ok (.putfield 18, 3) := by decide +kernel
theorem dX5_copyFrom_8 : decode cX5_copyFrom 8 = .ok (.aload_n 1, 1) := by decide +kernel
theorem dX5_copyFrom_9 : decode cX5_copyFrom 9 = .ok (.getfield 9, 3) := by decide +kernel
theorem dX5_copyFrom_12 : decode cX5_copyFrom 12 = .ok (.aload_n 0, 1) := by decide +kernel
theorem dX5_copyFrom_13 : decode cX5_copyFrom 13 = .ok (.getfield 9, 3) := by decide +kernel
theorem dX5_copyFrom_16 : decode cX5_copyFrom 16 = .ok (.aload_n 0, 1) := by decide +kernel
theorem dX5_copyFrom_17 : decode cX5_copyFrom 17 = .ok (.getfield 18, 3) := by decide +kernel
theorem dX5_copyFrom_20 : decode cX5_copyFrom 20 = .ok (.invokestatic 22, 3) := by decide +kernel
theorem dX5_copyFrom_23 : decode cX5_copyFrom 23 = .ok (.aload_n 1, 1) := by decide +kernel
theorem dX5_copyFrom_24 : decode cX5_copyFrom 24 = .ok (.getfield 15, 3) := by decide +kernel
theorem dX5_copyFrom_27 : decode cX5_copyFrom 27 = .ok (.aload_n 0, 1) := by decide +kernel
theorem dX5_copyFrom_28 : decode cX5_copyFrom 28 = .ok (.getfield 15, 3) := by decide +kernel
theorem dX5_copyFrom_31 : decode cX5_copyFrom 31 = .ok (.aload_n 0, 1) := by decide +kernel
theorem dX5_copyFrom_32 : decode cX5_copyFrom 32 = .ok (.getfield 18, 3) := by decide +kernel
theorem dX5_copyFrom_35 : decode cX5_copyFrom 35 = .ok (.invokestatic 22, 3) := by decide +kernel
theorem dX5_copyFrom_38 : decode cX5_copyFrom 38 = .ok (.return_, 1) := by decide +kernel
theorem dX5_addStop_0 : decode cX5_addStop 0 = .ok (.iload_n 1, 1) := by decide +kernel
theorem dX5_addStop_1 : decode cX5_addStop 1 = .ok (.iconst 0, 1) := by decide +kernel
theorem dX5_addStop_2 : decode cX5_addStop 2 = .ok (.sipush 999, 3) := by decide +kernel
theorem dX5_addStop_5 : decode cX5_addStop 5 = .ok (.invokestatic 26, 3) := by decide +kernel
theorem dX5_addStop_8 : decode cX5_addStop 8 = .ok (.ifCond .eq 14, 3) := by decide +kernel
theorem dX5_addStop_11 : decode cX5_addStop 11 = .ok (.iload_n 2, 1) := by decide +kernel
theorem dX5_addStop_12 : decode cX5_addStop 12 = .ok (.iload_n 1, 1) := by decide +kernel
theorem dX5_addStop_13 : decode cX5_addStop 13 = .ok (.sipush 999, 3) := by decide +kernel
theorem dX5_addStop_16 : decode cX5_addStop 16 = .ok (.invokestatic 26, 3) := by decide +kernel
theorem dX5_addStop_19 : decode cX5_addStop 19 = .ok (.ifCond .ne 6, 3) := by decide +kernel
theorem dX5_addStop_22 : decode cX5_addStop 22 = .ok (.bipush (-2), 2) := by decide +kernel
theorem dX5_addStop_24 : decode cX5_addStop 24 = .ok (.ireturn, 1) := by decide +kernel
theorem dX5_addStop_25 : decode cX5_addStop 25 = .ok (.aload_n 0, 1) := by decide +kernel
theorem dX5_addStop_26 : decode cX5_addStop 26 = .ok (.getfield 18, 3) := by decide +kernel
theorem dX5_addStop_29 : decode cX5_addStop 29 = .ok (.iconst 5, 1) := by decide +kernel
theorem dX5_addStop_30 : decode cX5_addStop 30 = .ok (.if_icmp .lt 6, 3) := by decide +kernel
theorem dX5_addStop_33 : decode cX5_addStop 33 = .ok (.bipush (-4), 2) := by decide +kernel
theorem dX5_addStop_35 : decode cX5_addStop 35 = .ok (.ireturn, 1) := by decide +kernel
theorem dX5_addStop_36 : decode cX5_addStop 36 = .ok (.aload_n 0, 1) := by decide +kernel
theorem dX5_addStop_37 : decode cX5_addStop 37 = .ok (.getfield 9, 3) := by decide +kernel
theorem dX5_addStop_40 : decode cX5_addStop 40 = .ok (.aload_n 0, 1) := by decide +kernel
theorem dX5_addStop_41 : decode cX5_addStop 41 = .ok (.getfield 18, 3) := by decide +kernel
theorem dX5_addStop_44 : decode cX5_addStop 44 = .ok (.iload_n 1, 1) := by decide +kernel
theorem dX5_addStop_45 : decode cX5_addStop 45 = .ok (.iastore, 1) := by decide +kernel
theorem dX5_addStop_46 : decode cX5_addStop 46 = .ok (.aload_n 0, 1) := by decide +kernel
theorem dX5_addStop_47 : decode cX5_addStop 47 = .ok (.getfield 15, 3) := by decide +kernel
theorem dX5_addStop_50 : decode cX5_addStop 50 = .ok (.aload_n 0, 1) := by decide +kernel
theorem dX5_addStop_51 : decode cX5_addStop 51 = .ok (.getfield 18, 3) := by decide +kernel
theorem dX5_addStop_54 : decode cX5_addStop 54 = .ok (.iload_n 2, 1) := by decide +kernel
theorem dX5_addStop_55 : decode cX5_addStop 55 = .ok (.iastore, 1) := by decide +kernel
theorem dX5_addStop_56 : decode cX5_addStop 56 = .ok (.aload_n 0, 1) := by decide +kernel
theorem dX5_addStop_57 : decode cX5_addStop 57 = .ok (.dup, 1) := by decide +kernel
theorem dX5_addStop_58 : decode cX5_addStop 58 = .ok (.getfield 18, 3) := by decide +kernel
theorem dX5_addStop_61 : decode cX5_addStop 61 = .ok (.iconst 1, 1) := by decide +kernel
theorem dX5_addStop_62 : decode cX5_addStop 62 = .ok (.iadd, 1) := by decide +kernel
theorem dX5_addStop_63 : decode cX5_addStop 63 = .ok (.putfield 18, 3) := by decide +kernel
theorem dX5_addStop_66 : decode cX5_addStop 66 = .ok (.aload_n 0, 1) := by decide +kernel
theorem dX5_addStop_67 : decode cX5_addStop 67 = .ok (.getfield 18, 3) := by decide +kernel
theorem dX5_addStop_70 : decode cX5_addStop 70 = .ok (.iconst 1, 1) := by decide +kernel
theorem dX5_addStop_71 : decode cX5_addStop 71 = .ok (.isub, 1) := by decide +kernel
theorem dX5_addStop_72 : decode cX5_addStop 72 = .ok (.ireturn, 1) := by decide +kernel
theorem dX5_removeStop_0 : decode cX5_removeStop 0 = .ok (.iload_n 1, 1) := by decide +kernel
theorem dX5_removeStop_1 : decode cX5_removeStop 1 = .ok (.iconst 0, 1) := by decide +kernel
theorem dX5_removeStop_2 : decode cX5_removeStop 2 = .ok (.aload_n 0, 1) := by decide +kernel
theorem dX5_removeStop_3 : decode cX5_removeStop 3 = .ok (.getfield 18, 3) := by decide +kernel
theorem dX5_removeStop_6 : decode cX5_removeStop 6 = .ok (.iconst 1, 1) := by decide +kernel
theorem dX5_removeStop_7 : decode cX5_removeStop 7 = .ok (.isub, 1) := by decide +kernel
theorem dX5_removeStop_8 : decode cX5_removeStop 8 = .ok (.invokestatic 26, 3) := by decide +kernel
theorem dX5_removeStop_11 : decode cX5_removeStop 11 = .ok (.ifCond .ne 5, 3) := by decide +kernel
theorem dX5_removeStop_14 : decode cX5_removeStop 14 = .ok (.iconst (-1), 1) := by decide +kernel
theorem dX5_removeStop_15 : decode cX5_removeStop 15 = .ok (.ireturn, 1) := by decide +kernel
theorem dX5_removeStop_16 : decode cX5_removeStop 16 = .ok (.iload_n 1, 1) := by decide +kernel
theorem dX5_removeStop_17 : decode cX5_removeStop 17 = .ok (.iconst 1, 1) := by decide +kernel
theorem dX5_removeStop_18 : decode cX5_removeStop 18 = .ok (.iadd, 1) := by decide +kernel
theorem dX5_removeStop_19 : decode cX5_removeStop 19 = .ok (.istore_n 2, 1) := by decide +kernel
theorem dX5_removeStop_20 : decode cX5_removeStop 20 = .ok (.iload_n 2, 1) := by decide +kernel
theorem dX5_removeStop_21 : decode cX5_removeStop 21 = .ok (.aload_n 0, 1) := by decide +kernel
theorem dX5_removeStop_22 : decode cX5_removeStop 22 = .ok (.getfield 18, 3) := by decide +kernel
theorem dX5_removeStop_25 : decode cX5_removeStop 25 = .ok (.if_icmp .ge 37, 3) := by decide +kernel
theorem dX5_removeStop_28 : decode cX5_removeStop 28 = .ok (.aload_n 0, 1) := by decide +kernel
theorem dX5_removeStop_29 : decode cX5_removeStop 29 = .ok (.getfield 9, 3) := by decide +kernel
theorem dX5_removeStop_32 : decode cX5_removeStop 32 = .ok (.iload_n 2, 1) := by decide +kernel
theorem dX5_removeStop_33 : decode cX5_removeStop 33 = .ok (.iconst 1, 1) := by decide +kernel
theorem dX5_removeStop_34 : decode cX5_removeStop 34 = .ok (.isub, 1) := by decide +kernel
theorem dX5_removeStop_35 : decode cX5_removeStop 35 = .ok (.aload_n 0, 1) := by decide +kernel
theorem dX5_removeStop_36 : decode cX5_removeStop 36 = .ok (.getfield 9, 3) := by decide +kernel
theorem dX5_removeStop_39 : decode cX5_removeStop 39 = .ok (.iload_n 2, 1) := by decide +kernel
theorem dX5_removeStop_40 : decode cX5_removeStop 40 = .ok (.iaload, 1) := by decide +kernel
theorem dX5_removeStop_41 : decode cX5_removeStop 41 = .ok (.iastore, 1) := by decide +kernel
theorem dX5_removeStop_42 : decode cX5_removeStop 42 = .ok (.aload_n 0, 1) := by decide +kernel
theorem dX5_removeStop_43 : decode cX5_removeStop 43 = .ok (.getfield 15, 3) := by decide +kernel
theorem dX5_removeStop_46 : decode cX5_removeStop 46 = .ok (.iload_n 2, 1) := by decide +kernel
theorem dX5_removeStop_47 : decode cX5_removeStop 47 = .ok (.iconst 1, 1) := by decide +kernel
theorem dX5_removeStop_48 : decode cX5_removeStop 48 = .ok (.isub, 1) := by decide +kernel
theorem dX5_removeStop_49 : decode cX5_removeStop 49 = .ok (.aload_n 0, 1) := by decide +kernel
theorem dX5_removeStop_50 : decode cX5_removeStop 50 = .ok (.getfield 15, 3) := by decide +kernel
theorem dX5_removeStop_53 : decode cX5_removeStop 53 = .ok (.iload_n 2, 1) := by decide +kernel
theorem dX5_removeStop_54 : decode cX5_removeStop 54 = .ok (.iaload, 1) := by decide +kernel
theorem dX5_removeStop_55 : decode cX5_removeStop 55 = .ok (.iastore, 1) := by decide +kernel
theorem dX5_removeStop_56 : decode cX5_removeStop 56 = .ok (.iinc 2 1, 3) := by decide +kernel
theorem dX5_removeStop_59 : decode cX5_removeStop 59 = .ok (.goto (-39), 3) := by decide +kernel
theorem dX5_removeStop_62 : decode cX5_removeStop 62 = .ok (.aload_n 0, 1) := by decide +kernel
theorem dX5_removeStop_63 : decode cX5_removeStop 63 = .ok (.dup, 1) := by decide +kernel
theorem dX5_removeStop_64 : decode cX5_removeStop 64 = .ok (.getfield 18, 3) := by decide +kernel
theorem dX5_removeStop_67 : decode cX5_removeStop 67 = .ok (.iconst 1, 1) := by decide +kernel
theorem dX5_removeStop_68 : decode cX5_removeStop 68 = .ok (.isub, 1) := by decide +kernel
theorem dX5_removeStop_69 : decode cX5_removeStop 69 = .ok (.putfield 18, 3) := by decide +kernel
theorem dX5_removeStop_72 : decode cX5_removeStop 72 = .ok (.aload_n 0, 1) := by decide +kernel
theorem dX5_removeStop_73 : decode cX5_removeStop 73 = .ok (.getfield 18, 3) := by decide +kernel
theorem dX5_removeStop_76 : decode cX5_removeStop 76 = .ok (.ireturn, 1) := by decide +kernel
theorem dX5_isStopped_0 : decode cX5_isStopped 0 = .ok (.iconst 0, 1) := by decide +kernel
theorem dX5_isStopped_1 : decode cX5_isStopped 1 = .ok (.istore_n 2, 1) := by decide +kernel
theorem dX5_isStopped_2 : decode cX5_isStopped 2 = .ok (.iload_n 2, 1) := by decide +kernel
theorem dX5_isStopped_3 : decode cX5_isStopped 3 = .ok (.aload_n 0, 1) := by decide +kernel
theorem dX5_isStopped_4 : decode cX5_isStopped 4 = .ok (.getfield 18, 3) := by decide +kernel
theorem dX5_isStopped_7 : decode cX5_isStopped 7 = .ok (.if_icmp .ge 30, 3) := by decide +kernel
theorem dX5_isStopped_10 : decode cX5_isStopped 10 = .ok (.iload_n 1, 1) := by decide +kernel
theorem dX5_isStopped_11 : decode cX5_isStopped 11 = .ok (.aload_n 0, 1) := by decide +kernel
theorem dX5_isStopped_12 : decode cX5_isStopped 12 = .ok (.getfield 9, 3) := by decide +kernel
theorem dX5_isStopped_15 : decode cX5_isStopped 15 = .ok (.iload_n 2, 1) := by decide +kernel
theorem dX5_isStopped_16 : decode cX5_isStopped 16 = .ok (.iaload, 1) := by decide +kernel
theorem dX5_isStopped_17 : decode cX5_isStopped 17 = .ok (.aload_n 0, 1) := by decide +kernel
theorem dX5_isStopped_18 : decode cX5_isStopped 18 = .ok (.getfield 15, 3) := by decide +kernel
theorem dX5_isStopped_21 : decode cX5_isStopped 21 = .ok (.iload_n 2, 1) := by decide +kernel
theorem dX5_isStopped_22 : decode cX5_isStopped 22 = .ok (.iaload, 1) := by decide +kernel
theorem dX5_isStopped_23 : decode cX5_isStopped 23 = .ok (.invokestatic 26, 3) := by decide +kernel
theorem dX5_isStopped_26 : decode cX5_isStopped 26 = .ok (.ifCond .eq 5, 3) := by decide +kernel
theorem dX5_isStopped_29 : decode cX5_isStopped 29 = .ok (.iconst 1, 1) := by decide +kernel
theorem dX5_isStopped_30 : decode cX5_isStopped 30 = .ok (.ireturn, 1) := by decide +kernel
theorem dX5_isStopped_31 : decode cX5_isStopped 31 = .ok (.iinc 2 1, 3) := by decide +kernel
theorem dX5_isStopped_34 : decode cX5_isStopped 34 = .ok (.goto (-32), 3) := by decide +kernel
theorem dX5_isStopped_37 : decode cX5_isStopped 37 = .ok (.iconst 0, 1) := by decide +kernel
theorem dX5_isStopped_38 : decode cX5_isStopped 38 = .ok (.ireturn, 1) := by decide +kernel
theorem dX6_init_0 : decode cX6_init 0 = .ok (.aload_n 0, 1) := by decide +kernel
theorem dX6_init_1 : decode cX6_init 1 = .ok (.invokespecial 3, 3) := by decide +kernel
theorem dX6_init_4 : decode cX6_init 4 = .ok (.aload_n 0, 1) := by decide +kernel
theorem dX6_init_5 : decode cX6_init 5 = .ok (.sipush 400, 3) := by decide +kernel
theorem dX6_init_8 : decode cX6_init 8 = .ok (.newarray .int, 2) := by decide +kernel
theorem dX6_init_10 : decode cX6_init 10 = .ok (.putfield 9, 3) := by decide +kernel
theorem dX6_init_13 : decode cX6_init 13 = .ok (.aload_n 0, 1) := by decide +kernel
theorem dX6_init_14 : decode cX6_init 14 = .ok (.sipush 400, 3) := by decide +kernel
theorem dX6_init_17 : decode cX6_init 17 = .ok (.newarray .int, 2) := by decide +kernel
theorem dX6_init_19 : decode cX6_init 19 = .ok (.putfield 15, 3) := by decide +kernel
theorem dX6_init_22 : decode cX6_init 22 = .ok (.aload_n 0, 1) := by decide +kernel
theorem dX6_init_23 : decode cX6_init 23 = .ok (.sipush 400, 3) := by decide +kernel
theorem dX6_init_26 : decode cX6_init 26 = .ok (.newarray .int, 2) := by decide +kernel
theorem dX6_init_28 : decode cX6_init 28 = .ok (.putfield 18, 3) := by decide +kernel
theorem dX6_init_31 : decode cX6_init 31 = .ok (.return_, 1) := by decide +kernel
theorem dX6_copyFrom_0 : decode cX6_copyFrom 0 = .ok (.aload_n 0, 1) := by decide +kernel
theorem dX6_copyFrom_1 : decode cX6_copyFrom 1 = .ok (.aload_n 1, 1) := by decide +kernel
theorem dX6_copyFrom_2 : decode cX6_copyFrom 2 = .ok (.getfield 21, 3) := by decide +kernel
theorem dX6_copyFrom_5 : decode cX6_copyFrom 5 = .ok (.putfield 21, 3) := by decide +kernel
theorem dX6_copyFrom_8 : decode cX6_copyFrom 8 = .ok (.aload_n 0, 1) := by decide +kernel
theorem dX6_copyFrom_9 : decode cX6_copyFrom 9 = .ok (.aload_n 1, 1) := by decide +kernel
theorem dX6_copyFrom_10 : decode cX6_copyFrom 10 = .ok (.getfield 25, 3) := by decide +kernel
theorem dX6_copyFrom_13 : decode cX6_copyFrom 13 = .ok (.putfield 25, 3) := by decide +kernel
theorem dX6_copyFrom_16 : decode cX6_copyFrom 16 = .ok (.aload_n 1, 1) := by decide +kernel
theorem dX6_copyFrom_17 : decode cX6_copyFrom 17 = .ok (.getfield 9, 3) := by decide +kernel
theorem dX6_copyFrom_20 : decode cX6_copyFrom 20 = .ok (.aload_n 0, 1) := by decide +kernel
theorem dX6_copyFrom_21 : decode cX6_copyFrom 21 = .ok (.getfield 9, 3) := by decide +kernel
theorem dX6_copyFrom_24 : decode cX6_copyFrom 24 = .ok (.aload_n 0, 1) := by decide +kernel
theorem dX6_copyFrom_25 : decode cX6_copyFrom 25 = .ok (.getfield 21, 3) := by decide +kernel
theorem dX6_copyFrom_28 : decode cX6_copyFrom 28 = .ok (.invokestatic 28, 3) := by decide +kernel
theorem dX6_copyFrom_31 : decode cX6_copyFrom 31 = .ok (.aload_n 1, 1) := by decide +kernel
theorem dX6_copyFrom_32 : decode cX6_copyFrom 32 = .ok (.getfield 15, 3) := by decide +kernel
theorem dX6_copyFrom_35 : decode cX6_copyFrom 35 = .ok (.aload_n 0, 1) := by decide +kernel
theorem dX6_copyFrom_36 : decode cX6_copyFrom 36 = .ok (.getfield 15, 3) := by decide +kernel
theorem dX6_copyFrom_39 : decode cX6_copyFrom 39 = .ok (.aload_n 0, 1) := by decide +kernel
theorem dX6_copyFrom_40 : decode cX6_copyFrom 40 = .ok (.getfield 21, 3) := by decide +kernel
theorem dX6_copyFrom_43 : decode cX6_copyFrom 43 = .ok (.invokestatic 28, 3) := by decide +kernel
theorem dX6_copyFrom_46 : decode cX6_copyFrom 46 = .ok (.aload_n 1, 1) := by decide +kernel
theorem dX6_copyFrom_47 : decode cX6_copyFrom 47 = .ok (.getfield 18, 3) := by decide +kernel
theorem dX6_copyFrom_50 : decode cX6_copyFrom 50 = .ok (.aload_n 0, 1) := by decide +kernel
theorem dX6_copyFrom_51 : decode cX6_copyFrom 51 = .ok (.getfield 18, 3) := by decide +kernel
theorem dX6_copyFrom_54 : decode cX6_copyFrom 54 = .ok (.aload_n 0, 1) := by decide +kernel
theorem dX6_copyFrom_55 : decode cX6_copyFrom 55 = .ok (.getfield 21, 3) := by decide +kernel
theorem dX6_copyFrom_58 : decode cX6_copyFrom 58 = .ok (.invokestatic 28, 3) := by decide +kernel
theorem dX6_copyFrom_61 : decode cX6_copyFrom 61 = .ok (.return_, 1) := by decide +kernel
theorem dX6_append_0 : decode cX6_append 0 = .ok (.aload_n 0, 1) := by decide +kernel
theorem dX6_append_1 : decode cX6_append 1 = .ok (.getfield 21, 3) := by decide +kernel
theorem dX6_append_4 : decode cX6_append 4 = .ok (.sipush 400, 3) := by decide +kernel
theorem dX6_append_7 : decode cX6_append 7 = .ok (.if_icmp .lt 4, 3) := by decide +kernel
theorem dX6_append_10 : decode cX6_append 10 = .ok (.return_, 1) := by decide +kernel
theorem dX6_append_11 : decode cX6_append 11 = .ok (.aload_n 0, 1) := by decide +kernel
theorem dX6_append_12 : decode cX6_append 12 = .ok (.getfield 9, 3) := by decide +kernel
theorem dX6_append_15 : decode cX6_append 15 = .ok (.aload_n 0, 1) := by decide +kernel
theorem dX6_append_16 : decode cX6_append 16 = .ok (.getfield 21, 3) := by decide +kernel
theorem dX6_append_19 : decode cX6_append 19 = .ok (.iload_n 1, 1) := by decide +kernel
theorem dX6_append_20 : decode cX6_append 20 = .ok (.iastore, 1) := by decide +kernel
theorem dX6_append_21 : decode cX6_append 21 = .ok (.aload_n 0, 1) := by decide +kernel
theorem dX6_append_22 : decode cX6_append 22 = .ok (.getfield 15, 3) := by decide +kernel
theorem dX6_append_25 : decode cX6_append 25 = .ok (.aload_n 0, 1) := by decide +kernel
theorem dX6_append_26 : decode cX6_append 26 = .ok (.getfield 21, 3) := by decide +kernel
theorem dX6_append_29 : decode cX6_append 29 = .ok (.iload_n 2, 1) := by decide +kernel
theorem dX6_append_30 : decode cX6_append 30 = .ok (.iastore, 1) := by decide +kernel
theorem dX6_append_31 : decode cX6_append 31 = .ok (.aload_n 0, 1) := by decide +kernel
theorem dX6_append_32 : decode cX6_append 32 = .ok (.getfield 18, 3) := by decide +kernel
theorem dX6_append_35 : decode cX6_append 35 = .ok (.aload_n 0, 1) := by decide +kernel
theorem dX6_append_36 : decode cX6_append 36 = .ok (.getfield 21, 3) := by decide +kernel
theorem dX6_append_39 : decode cX6_append 39 = .ok (.iload_n 3, 1) := by decide +kernel
theorem dX6_append_40 : decode cX6_append 40 = .ok (.iastore, 1) := by decide +kernel
theorem dX6_append_41 : decode cX6_append 41 = .ok (.aload_n 0, 1) := by decide +kernel
theorem dX6_append_42 : decode cX6_append 42 = .ok (.dup, 1) := by decide +kernel
theorem dX6_append_43 : decode cX6_append 43 = .ok (.getfield 21, 3) := by decide +kernel
theorem dX6_append_46 : decode cX6_append 46 = .ok (.iconst 1, 1) := by decide +kernel
theorem dX6_append_47 : decode cX6_append 47 = .ok (.iadd, 1) := by decide +kernel
theorem dX6_append_48 : decode cX6_append 48 = .ok (.putfield 21, 3) := by decide +kernel
theorem dX6_append_51 : decode cX6_append 51 = .ok (.aload_n 0, 1) := by decide +kernel
theorem dX6_append_52 : decode cX6_append 52 = .ok (.dup, 1) := by decide +kernel
theorem dX6_append_53 : decode cX6_append 53 = .ok (.getfield 25, 3) := by decide +kernel
theorem dX6_append_56 : decode cX6_append 56 = .ok (.iload_n 2, 1) := by decide +kernel
theorem dX6_append_57 : decode cX6_append 57 = .ok (.iadd, 1) := by decide +kernel
theorem dX6_append_58 : decode cX6_append 58 = .ok (.putfield 25, 3) := by decide +kernel
theorem dX6_append_61 : decode cX6_append 61 = .ok (.return_, 1) := by decide +kernel
theorem dX6_takeFrom_0 : decode cX6_takeFrom 0 = .ok (.iload_n 1, 1) := by decide +kernel
theorem dX6_takeFrom_1 : decode cX6_takeFrom 1 = .ok (.iconst 0, 1) := by decide +kernel
theorem dX6_takeFrom_2 : decode cX6_takeFrom 2 = .ok (.aload_n 0, 1) := by decide +kernel
theorem dX6_takeFrom_3 : decode cX6_takeFrom 3 = .ok (.getfield 21, 3) := by decide +kernel
theorem dX6_takeFrom_6 : decode cX6_takeFrom 6 = .ok (.iconst 1, 1) := by decide +kernel
theorem dX6_takeFrom_7 : decode cX6_takeFrom 7 = .ok (.isub, 1) := by decide +kernel
theorem dX6_takeFrom_8 : decode cX6_takeFrom 8 = .ok (.invokestatic 32, 3) := by decide +kernel
theorem dX6_takeFrom_11 : decode cX6_takeFrom 11 = .ok (.ifCond .ne 5, 3) := by decide +kernel
theorem dX6_takeFrom_14 : decode cX6_takeFrom 14 = .ok (.iconst 0, 1) := by decide +kernel
theorem dX6_takeFrom_15 : decode cX6_takeFrom 15 = .ok (.ireturn, 1) := by decide +kernel
theorem dX6_takeFrom_16 : decode cX6_takeFrom 16 = .ok (.aload_n 0, 1) := by decide +kernel
theorem dX6_takeFrom_17 : decode cX6_takeFrom 17 = .ok (.getfield 15, 3) := by decide +kernel
theorem dX6_takeFrom_20 : decode cX6_takeFrom 20 = .ok (.iload_n 1, 1) := by decide +kernel
theorem dX6_takeFrom_21 : decode cX6_takeFrom 21 = .ok (.dup2, 1) := by decide +kernel
theorem dX6_takeFrom_22 : decode cX6_takeFrom 22 = .ok (.iaload, 1) := by decide +kernel
theorem dX6_takeFrom_23 : decode cX6_takeFrom 23 = .ok (.iload_n 2, 1) := by decide +kernel
theorem dX6_takeFrom_24 : decode cX6_takeFrom 24 = .ok (.isub, 1) := by decide +kernel
theorem dX6_takeFrom_25 : decode cX6_takeFrom 25 = .ok (.iastore, 1) := by decide +kernel
theorem dX6_takeFrom_26 : decode cX6_takeFrom 26 = .ok (.aload_n 0, 1) := by decide +kernel
theorem dX6_takeFrom_27 : decode cX6_takeFrom 27 = .ok (.dup, 1) := by decide +kernel
theorem dX6_takeFrom_28 : decode cX6_takeFrom 28 = .ok (.getfield 25, 3) := by decide +kernel
theorem dX6_takeFrom_31 : decode cX6_takeFrom 31 = .ok (.iload_n 2, 1) := by decide +kernel
theorem dX6_takeFrom_32 : decode cX6_takeFrom 32 = .ok (.isub, 1) := by decide +kernel
theorem dX6_takeFrom_33 : decode cX6_takeFrom 33 = .ok (.putfield 25, 3) := by decide +kernel
theorem dX6_takeFrom_36 : decode cX6_takeFrom 36 = .ok (.aload_n 0, 1) := by decide +kernel
theorem dX6_takeFrom_37 : decode cX6_takeFrom 37 = .ok (.getfield 15, 3) := by decide +kernel
theorem dX6_takeFrom_40 : decode cX6_takeFrom 40 = .ok (.iload_n 1, 1) := by decide +kernel
theorem dX6_takeFrom_41 : decode cX6_takeFrom 41 = .ok (.iaload, 1) := by decide +kernel
theorem dX6_takeFrom_42 : decode cX6_takeFrom 42 = .ok (.ireturn, 1) := by decide +kernel
theorem dX6_dropFirst_0 : decode cX6_dropFirst 0 = .ok (.iload_n 1, 1) := by decide +kernel
theorem dX6_dropFirst_1 : decode cX6_dropFirst 1 = .ok (.istore_n 2, 1) := by decide +kernel
theorem dX6_dropFirst_2 : decode cX6_dropFirst 2 = .ok (.iload_n 2, 1) := by decide +kernel
theorem dX6_dropFirst_3 : decode cX6_dropFirst 3 = .ok (.aload_n 0, 1) := by decide +kernel
theorem dX6_dropFirst_4 : decode cX6_dropFirst 4 = .ok (.getfield 21, 3) := by decide +kernel
theorem dX6_dropFirst_7 : decode cX6_dropFirst 7 = .ok (.if_icmp .ge 51, 3) := by decide +kernel
theorem dX6_dropFirst_10 : decode cX6_dropFirst 10 = .ok (.aload_n 0, 1) := by decide +kernel
theorem dX6_dropFirst_11 : decode cX6_dropFirst 11 = .ok (.getfield 9, 3) := by decide +kernel
theorem dX6_dropFirst_14 : decode cX6_dropFirst 14 = .ok (.iload_n 2, 1) := by decide +kernel
theorem dX6_dropFirst_15 : decode cX6_dropFirst 15 = .ok (.iload_n 1, 1) := by decide +kernel
theorem dX6_dropFirst_16 : decode cX6_dropFirst 16 = .ok (.isub, 1) := by decide +kernel
theorem dX6_dropFirst_17 : decode cX6_dropFirst 17 = .ok (.aload_n 0, 1) := by decide +kernel
theorem dX6_dropFirst_18 : decode cX6_dropFirst 18 = .ok (.getfield 9, 3) := by decide +kernel
theorem dX6_dropFirst_21 : decode cX6_dropFirst 21 = .ok (.iload_n 2, 1) := by decide +kernel
theorem dX6_dropFirst_22 : decode cX6_dropFirst 22 = .ok (.iaload, 1) := by decide +kernel
theorem dX6_dropFirst_23 : decode cX6_dropFirst 23 = .ok (.iastore, 1) := by decide +kernel
theorem dX6_dropFirst_24 : decode cX6_dropFirst 24 = .ok (.aload_n 0, 1) := by decide +kernel
theorem dX6_dropFirst_25 : decode cX6_dropFirst 25 = .ok (.getfield 15, 3) := by decide +kernel
theorem dX6_dropFirst_28 : decode cX6_dropFirst 28 = .ok (.iload_n 2, 1) := by decide +kernel
theorem dX6_dropFirst_29 : decode cX6_dropFirst 29 = .ok (.iload_n 1, 1) := by decide +kernel
theorem dX6_dropFirst_30 : decode cX6_dropFirst 30 = .ok (.isub, 1) := by decide +kernel
theorem dX6_dropFirst_31 : decode cX6_dropFirst 31 = .ok (.aload_n 0, 1) := by decide +kernel
theorem dX6_dropFirst_32 : decode cX6_dropFirst 32 = .ok (.getfield 15, 3) := by decide +kernel
theorem dX6_dropFirst_35 : decode cX6_dropFirst 35 = .ok (.iload_n 2, 1) := by decide +kernel
theorem dX6_dropFirst_36 : decode cX6_dropFirst 36 = .ok (.iaload, 1) := by decide +kernel
theorem dX6_dropFirst_37 : decode cX6_dropFirst 37 = .ok (.iastore, 1) := by decide +kernel
theorem dX6_dropFirst_38 : decode cX6_dropFirst 38 = .ok (.aload_n 0, 1) := by decide +kernel
theorem dX6_dropFirst_39 : decode cX6_dropFirst 39 = .ok (.getfield 18, 3) := by decide +kernel
theorem dX6_dropFirst_42 : decode cX6_dropFirst 42 = .ok (.iload_n 2, 1) := by decide +kernel
theorem dX6_dropFirst_43 : decode cX6_dropFirst 43 = .ok (.iload_n 1, 1) := by decide +kernel
theorem dX6_dropFirst_44 : decode cX6_dropFirst 44 = .ok (.isub, 1) := by decide +kernel
theorem dX6_dropFirst_45 : decode cX6_dropFirst 45 = .ok (.aload_n 0, 1) := by decide +kernel
theorem dX6_dropFirst_46 : decode cX6_dropFirst 46 = .ok (.getfield 18, 3) := by decide +kernel
theorem dX6_dropFirst_49 : decode cX6_dropFirst 49 = .ok (.iload_n 2, 1) := by decide +kernel
theorem dX6_dropFirst_50 : decode cX6_dropFirst 50 = .ok (.iaload, 1) := by decide +kernel
theorem dX6_dropFirst_51 : decode cX6_dropFirst 51 = .ok (.iastore, 1) := by decide +kernel
theorem dX6_dropFirst_52 : decode cX6_dropFirst 52 = .ok (.iinc 2 1, 3) := by decide +kernel
theorem dX6_dropFirst_55 : decode cX6_dropFirst 55 = .ok (.goto (-53), 3) := by decide +kernel
theorem dX6_dropFirst_58 : decode cX6_dropFirst 58 = .ok (.aload_n 0, 1) := by decide +kernel
theorem dX6_dropFirst_59 : decode cX6_dropFirst 59 = .ok (.dup, 1) := by decide +kernel
theorem dX6_dropFirst_60 : decode cX6_dropFirst 60 = .ok (.getfield 21, 3) := by decide +kernel
theorem dX6_dropFirst_63 : decode cX6_dropFirst 63 = .ok (.iload_n 1, 1) := by decide +kernel
theorem dX6_dropFirst_64 : decode cX6_dropFirst 64 = .ok (.isub, 1) := by decide +kernel
theorem dX6_dropFirst_65 : decode cX6_dropFirst 65 = .ok (.putfield 21, 3) := by decide +kernel
theorem dX6_dropFirst_68 : decode cX6_dropFirst 68 = .ok (.return_, 1) := by decide +kernel
theorem dX6_numberOfLoad_0 : decode cX6_numberOfLoad 0 = .ok (.iload_n 1, 1) := by decide +kernel
theorem dX6_numberOfLoad_1 : decode cX6_numberOfLoad 1 = .ok (.iconst 0, 1) := by decide +kernel
theorem dX6_numberOfLoad_2 : decode cX6_numberOfLoad 2 = .ok (.aload_n 0, 1) := by decide +kernel
theorem dX6_numberOfLoad_3 : decode cX6_numberOfLoad 3 = .ok (.getfield 21, 3) := by decide +kernel
theorem dX6_numberOfLoad_6 : decode cX6_numberOfLoad 6 = .ok (.iconst 1, 1) := by decide +kernel
theorem dX6_numberOfLoad_7 : decode cX6_numberOfLoad 7 = .ok (.isub, 1) := by decide +kernel
theorem dX6_numberOfLoad_8 : decode cX6_numberOfLoad 8 = .ok (.invokestatic 32, 3) := by decide +kernel
theorem dX6_numberOfLoad_11 : decode cX6_numberOfLoad 11 = .ok (.ifCond .ne 5, 3) := by decide +kernel
theorem dX6_numberOfLoad_14 : decode cX6_numberOfLoad 14 = .ok (.iconst (-1), 1) := by decide +kernel
theorem dX6_numberOfLoad_15 : decode cX6_numberOfLoad 15 = .ok (.ireturn, 1) := by decide +kernel
theorem dX6_numberOfLoad_16 : decode cX6_numberOfLoad 16 = .ok (.iload_n 2, 1) := by decide +kernel
theorem dX6_numberOfLoad_17 : decode cX6_numberOfLoad 17 = .ok (.tableswitch 48 0 2 #[27, 34, 41], 27) := by decide +kernel
theorem dX6_numberOfLoad_44 : decode cX6_numberOfLoad 44 = .ok (.aload_n 0, 1) := by decide +kernel
theorem dX6_numberOfLoad_45 : decode cX6_numberOfLoad 45 = .ok (.getfield 9, 3) := by decide +kernel
theorem dX6_numberOfLoad_48 : decode cX6_numberOfLoad 48 = .ok (.iload_n 1, 1) := by decide +kernel
theorem dX6_numberOfLoad_49 : decode cX6_numberOfLoad 49 = .ok (.iaload, 1) := by decide +kernel
theorem dX6_numberOfLoad_50 : decode cX6_numberOfLoad 50 = .ok (.ireturn, 1) := by decide +kernel
theorem dX6_numberOfLoad_51 : decode cX6_numberOfLoad 51 = .ok (.aload_n 0, 1) := by decide +kernel
theorem dX6_numberOfLoad_52 : decode cX6_numberOfLoad 52 = .ok (.getfield 15, 3) := by decide +kernel
theorem dX6_numberOfLoad_55 : decode cX6_numberOfLoad 55 = .ok (.iload_n 1, 1) := by decide +kernel
theorem dX6_numberOfLoad_56 : decode cX6_numberOfLoad 56 = .ok (.iaload, 1) := by decide +kernel
theorem dX6_numberOfLoad_57 : decode cX6_numberOfLoad 57 = .ok (.ireturn, 1) := by decide +kernel
theorem dX6_numberOfLoad_58 : decode cX6_numberOfLoad 58 = .ok (.aload_n 0, 1) := by decide +kernel
theorem dX6_numberOfLoad_59 : decode cX6_numberOfLoad 59 = .ok (.getfield 18, 3) := by decide +kernel
theorem dX6_numberOfLoad_62 : decode cX6_numberOfLoad 62 = .ok (.iload_n 1, 1) := by decide +kernel
theorem dX6_numberOfLoad_63 : decode cX6_numberOfLoad 63 = .ok (.iaload, 1) := by decide +kernel
theorem dX6_numberOfLoad_64 : decode cX6_numberOfLoad 64 = .ok (.ireturn, 1) := by decide +kernel
theorem dX6_numberOfLoad_65 : decode cX6_numberOfLoad 65 = .ok (.bipush (-2), 2) := by decide +kernel
theorem dX6_numberOfLoad_67 : decode cX6_numberOfLoad 67 = .ok (.ireturn, 1) := by decide +kernel
theorem dX7_init_0 : decode cX7_init 0 = .ok (.aload_n 0, 1) := by decide +kernel
theorem dX7_init_1 : decode cX7_init 1 = .ok (.invokespecial 1, 3) := by decide +kernel
theorem dX7_init_4 : decode cX7_init 4 = .ok (.aload_n 0, 1) := by decide +kernel
theorem dX7_init_5 : decode cX7_init 5 = .ok (.new 7, 3) := by decide +kernel
theorem dX7_init_8 : decode cX7_init 8 = .ok (.dup, 1) := by decide +kernel
theorem dX7_init_9 : decode cX7_init 9 = .ok (.invokespecial 9, 3) := by decide +kernel
theorem dX7_init_12 : decode cX7_init 12 = .ok (.putfield 10, 3) := by decide +kernel
theorem dX7_init_15 : decode cX7_init 15 = .ok (.aload_n 0, 1) := by decide +kernel
theorem dX7_init_16 : decode cX7_init 16 = .ok (.new 7, 3) := by decide +kernel
theorem dX7_init_19 : decode cX7_init 19 = .ok (.dup, 1) := by decide +kernel
theorem dX7_init_20 : decode cX7_init 20 = .ok (.invokespecial 9, 3) := by decide +kernel
theorem dX7_init_23 : decode cX7_init 23 = .ok (.putfield 16, 3) := by decide +kernel
theorem dX7_init_26 : decode cX7_init 26 = .ok (.aload_n 0, 1) := by decide +kernel
theorem dX7_init_27 : decode cX7_init 27 = .ok (.new 19, 3) := by decide +kernel
theorem dX7_init_30 : decode cX7_init 30 = .ok (.dup, 1) := by decide +kernel
theorem dX7_init_31 : decode cX7_init 31 = .ok (.invokespecial 21, 3) := by decide +kernel
theorem dX7_init_34 : decode cX7_init 34 = .ok (.putfield 22, 3) := by decide +kernel
theorem dX7_init_37 : decode cX7_init 37 = .ok (.aload_n 0, 1) := by decide +kernel
theorem dX7_init_38 : decode cX7_init 38 = .ok (.iconst 2, 1) := by decide +kernel
theorem dX7_init_39 : decode cX7_init 39 = .ok (.anewarray 7, 3) := by decide +kernel
theorem dX7_init_42 : decode cX7_init 42 = .ok (.putfield 26, 3) := by decide +kernel
theorem dX7_init_45 : decode cX7_init 45 = .ok (.aload_n 0, 1) := by decide +kernel
theorem dX7_init_46 : decode cX7_init 46 = .ok (.new 30, 3) := by decide +kernel
theorem dX7_init_49 : decode cX7_init 49 = .ok (.dup, 1) := by decide +kernel
theorem dX7_init_50 : decode cX7_init 50 = .ok (.invokespecial 32, 3) := by decide +kernel
theorem dX7_init_53 : decode cX7_init 53 = .ok (.putfield 33, 3) := by decide +kernel
theorem dX7_init_56 : decode cX7_init 56 = .ok (.return_, 1) := by decide +kernel
theorem dX7_set_0 : decode cX7_set 0 = .ok (.aload_n 0, 1) := by decide +kernel
theorem dX7_set_1 : decode cX7_set 1 = .ok (.getfield 22, 3) := by decide +kernel
theorem dX7_set_4 : decode cX7_set 4 = .ok (.aload_n 0, 1) := by decide +kernel
theorem dX7_set_5 : decode cX7_set 5 = .ok (.getfield 10, 3) := by decide +kernel
theorem dX7_set_8 : decode cX7_set 8 = .ok (.invokevirtual 37, 3) := by decide +kernel
theorem dX7_set_11 : decode cX7_set 11 = .ok (.aload_n 0, 1) := by decide +kernel
theorem dX7_set_12 : decode cX7_set 12 = .ok (.getfield 22, 3) := by decide +kernel
theorem dX7_set_15 : decode cX7_set 15 = .ok (.aload_n 0, 1) := by decide +kernel
theorem dX7_set_16 : decode cX7_set 16 = .ok (.getfield 10, 3) := by decide +kernel
theorem dX7_set_19 : decode cX7_set 19 = .ok (.iload_n 1, 1) := by decide +kernel
theorem dX7_set_20 : decode cX7_set 20 = .ok (.iload_n 2, 1) := by decide +kernel
theorem dX7_set_21 : decode cX7_set 21 = .ok (.invokevirtual 41, 3) := by decide +kernel
theorem dX7_set_24 : decode cX7_set 24 = .ok (.invokevirtual 45, 3) := by decide +kernel
theorem dX7_set_27 : decode cX7_set 27 = .ok (.ireturn, 1) := by decide +kernel
theorem dX7_quota_0 : decode cX7_quota 0 = .ok (.aload_n 0, 1) := by decide +kernel
theorem dX7_quota_1 : decode cX7_quota 1 = .ok (.getfield 22, 3) := by decide +kernel
theorem dX7_quota_4 : decode cX7_quota 4 = .ok (.aload_n 0, 1) := by decide +kernel
theorem dX7_quota_5 : decode cX7_quota 5 = .ok (.getfield 10, 3) := by decide +kernel
theorem dX7_quota_8 : decode cX7_quota 8 = .ok (.invokevirtual 37, 3) := by decide +kernel
theorem dX7_quota_11 : decode cX7_quota 11 = .ok (.aload_n 0, 1) := by decide +kernel
theorem dX7_quota_12 : decode cX7_quota 12 = .ok (.getfield 22, 3) := by decide +kernel
theorem dX7_quota_15 : decode cX7_quota 15 = .ok (.aload_n 0, 1) := by decide +kernel
theorem dX7_quota_16 : decode cX7_quota 16 = .ok (.getfield 10, 3) := by decide +kernel
theorem dX7_quota_19 : decode cX7_quota 19 = .ok (.iload_n 1, 1) := by decide +kernel
theorem dX7_quota_20 : decode cX7_quota 20 = .ok (.iload_n 2, 1) := by decide +kernel
theorem dX7_quota_21 : decode cX7_quota 21 = .ok (.invokevirtual 49, 3) := by decide +kernel
theorem dX7_quota_24 : decode cX7_quota 24 = .ok (.invokevirtual 45, 3) := by decide +kernel
theorem dX7_quota_27 : decode cX7_quota 27 = .ok (.ireturn, 1) := by decide +kernel
theorem dX7_lend_0 : decode cX7_lend 0 = .ok (.aload_n 0, 1) := by decide +kernel
theorem dX7_lend_1 : decode cX7_lend 1 = .ok (.getfield 22, 3) := by decide +kernel
theorem dX7_lend_4 : decode cX7_lend 4 = .ok (.aload_n 0, 1) := by decide +kernel
theorem dX7_lend_5 : decode cX7_lend 5 = .ok (.getfield 10, 3) := by decide +kernel
theorem dX7_lend_8 : decode cX7_lend 8 = .ok (.invokevirtual 37, 3) := by decide +kernel
theorem dX7_lend_11 : decode cX7_lend 11 = .ok (.aload_n 0, 1) := by decide +kernel
theorem dX7_lend_12 : decode cX7_lend 12 = .ok (.getfield 22, 3) := by decide +kernel
theorem dX7_lend_15 : decode cX7_lend 15 = .ok (.aload_n 0, 1) := by decide +kernel
theorem dX7_lend_16 : decode cX7_lend 16 = .ok (.getfield 10, 3) := by decide +kernel
theorem dX7_lend_19 : decode cX7_lend 19 = .ok (.iload_n 1, 1) := by decide +kernel
theorem dX7_lend_20 : decode cX7_lend 20 = .ok (.iload_n 2, 1) := by decide +kernel
theorem dX7_lend_21 : decode cX7_lend 21 = .ok (.iload_n 3, 1) := by decide +kernel
theorem dX7_lend_22 : decode cX7_lend 22 = .ok (.invokevirtual 52, 3) := by decide +kernel
theorem dX7_lend_25 : decode cX7_lend 25 = .ok (.invokevirtual 45, 3) := by decide +kernel
theorem dX7_lend_28 : decode cX7_lend 28 = .ok (.ireturn, 1) := by decide +kernel
theorem dX7_field_0 : decode cX7_field 0 = .ok (.aload_n 0, 1) := by decide +kernel
theorem dX7_field_1 : decode cX7_field 1 = .ok (.getfield 22, 3) := by decide +kernel
theorem dX7_field_4 : decode cX7_field 4 = .ok (.aload_n 0, 1) := by decide +kernel
theorem dX7_field_5 : decode cX7_field 5 = .ok (.getfield 10, 3) := by decide +kernel
theorem dX7_field_8 : decode cX7_field 8 = .ok (.invokevirtual 37, 3) := by decide +kernel
theorem dX7_field_11 : decode cX7_field 11 = .ok (.aload_n 0, 1) := by decide +kernel
theorem dX7_field_12 : decode cX7_field 12 = .ok (.getfield 22, 3) := by decide +kernel
theorem dX7_field_15 : decode cX7_field 15 = .ok (.aload_n 0, 1) := by decide +kernel
theorem dX7_field_16 : decode cX7_field 16 = .ok (.getfield 10, 3) := by decide +kernel
theorem dX7_field_19 : decode cX7_field 19 = .ok (.iload_n 1, 1) := by decide +kernel
theorem dX7_field_20 : decode cX7_field 20 = .ok (.iload_n 2, 1) := by decide +kernel
theorem dX7_field_21 : decode cX7_field 21 = .ok (.iload_n 3, 1) := by decide +kernel
theorem dX7_field_22 : decode cX7_field 22 = .ok (.iload 4, 2) := by decide +kernel
theorem dX7_field_24 : decode cX7_field 24 = .ok (.invokevirtual 56, 3) := by decide +kernel
theorem dX7_field_27 : decode cX7_field 27 = .ok (.invokevirtual 45, 3) := by decide +kernel
theorem dX7_field_30 : decode cX7_field 30 = .ok (.ireturn, 1) := by decide +kernel
theorem dX7_stop_0 : decode cX7_stop 0 = .ok (.aload_n 0, 1) := by decide +kernel
theorem dX7_stop_1 : decode cX7_stop 1 = .ok (.getfield 22, 3) := by decide +kernel
theorem dX7_stop_4 : decode cX7_stop 4 = .ok (.aload_n 0, 1) := by decide +kernel
theorem dX7_stop_5 : decode cX7_stop 5 = .ok (.getfield 10, 3) := by decide +kernel
theorem dX7_stop_8 : decode cX7_stop 8 = .ok (.invokevirtual 37, 3) := by decide +kernel
theorem dX7_stop_11 : decode cX7_stop 11 = .ok (.aload_n 0, 1) := by decide +kernel
theorem dX7_stop_12 : decode cX7_stop 12 = .ok (.getfield 22, 3) := by decide +kernel
theorem dX7_stop_15 : decode cX7_stop 15 = .ok (.aload_n 0, 1) := by decide +kernel
theorem dX7_stop_16 : decode cX7_stop 16 = .ok (.getfield 10, 3) := by decide +kernel
theorem dX7_stop_19 : decode cX7_stop 19 = .ok (.getfield 60, 3) := by decide +kernel
theorem dX7_stop_22 : decode cX7_stop 22 = .ok (.iload_n 1, 1) := by decide +kernel
theorem dX7_stop_23 : decode cX7_stop 23 = .ok (.iload_n 2, 1) := by decide +kernel
theorem dX7_stop_24 : decode cX7_stop 24 = .ok (.invokevirtual 64, 3) := by decide +kernel
theorem dX7_stop_27 : decode cX7_stop 27 = .ok (.invokevirtual 45, 3) := by decide +kernel
theorem dX7_stop_30 : decode cX7_stop 30 = .ok (.ireturn, 1) := by decide +kernel
theorem dX7_dropStop_0 : decode cX7_dropStop 0 = .ok (.aload_n 0, 1) := by decide +kernel
theorem dX7_dropStop_1 : decode cX7_dropStop 1 = .ok (.getfield 22, 3) := by decide +kernel
theorem dX7_dropStop_4 : decode cX7_dropStop 4 = .ok (.aload_n 0, 1) := by decide +kernel
theorem dX7_dropStop_5 : decode cX7_dropStop 5 = .ok (.getfield 10, 3) := by decide +kernel
theorem dX7_dropStop_8 : decode cX7_dropStop 8 = .ok (.invokevirtual 37, 3) := by decide +kernel
theorem dX7_dropStop_11 : decode cX7_dropStop 11 = .ok (.aload_n 0, 1) := by decide +kernel
theorem dX7_dropStop_12 : decode cX7_dropStop 12 = .ok (.getfield 22, 3) := by decide +kernel
theorem dX7_dropStop_15 : decode cX7_dropStop 15 = .ok (.aload_n 0, 1) := by decide +kernel
theorem dX7_dropStop_16 : decode cX7_dropStop 16 = .ok (.getfield 10, 3) := by decide +kernel
theorem dX7_dropStop_19 : decode cX7_dropStop 19 = .ok (.getfield 60, 3) := by decide +kernel
theorem dX7_dropStop_22 : decode cX7_dropStop 22 = .ok (.iload_n 1, 1) := by decide +kernel
theorem dX7_dropStop_23 : decode cX7_dropStop 23 = .ok (.invokevirtual 69, 3) := by decide +kernel
theorem dX7_dropStop_26 : decode cX7_dropStop 26 = .ok (.invokevirtual 45, 3) := by decide +kernel
theorem dX7_dropStop_29 : decode cX7_dropStop 29 = .ok (.ireturn, 1) := by decide +kernel
theorem dX7_pass_0 : decode cX7_pass 0 = .ok (.aload_n 0, 1) := by decide +kernel
theorem dX7_pass_1 : decode cX7_pass 1 = .ok (.getfield 22, 3) := by decide +kernel
theorem dX7_pass_4 : decode cX7_pass 4 = .ok (.aload_n 0, 1) := by decide +kernel
theorem dX7_pass_5 : decode cX7_pass 5 = .ok (.getfield 10, 3) := by decide +kernel
theorem dX7_pass_8 : decode cX7_pass 8 = .ok (.invokevirtual 37, 3) := by decide +kernel
theorem dX7_pass_11 : decode cX7_pass 11 = .ok (.aload_n 0, 1) := by decide +kernel
theorem dX7_pass_12 : decode cX7_pass 12 = .ok (.getfield 22, 3) := by decide +kernel
theorem dX7_pass_15 : decode cX7_pass 15 = .ok (.aload_n 0, 1) := by decide +kernel
theorem dX7_pass_16 : decode cX7_pass 16 = .ok (.getfield 10, 3) := by decide +kernel
theorem dX7_pass_19 : decode cX7_pass 19 = .ok (.iload_n 1, 1) := by decide +kernel
theorem dX7_pass_20 : decode cX7_pass 20 = .ok (.invokevirtual 72, 3) := by decide +kernel
theorem dX7_pass_23 : decode cX7_pass 23 = .ok (.invokevirtual 45, 3) := by decide +kernel
theorem dX7_pass_26 : decode cX7_pass 26 = .ok (.ireturn, 1) := by decide +kernel
theorem dX7_ofField_0 : decode cX7_ofField 0 = .ok (.aload_n 0, 1) := by decide +kernel
theorem dX7_ofField_1 : decode cX7_ofField 1 = .ok (.getfield 10, 3) := by decide +kernel
theorem dX7_ofField_4 : decode cX7_ofField 4 = .ok (.iload_n 1, 1) := by decide +kernel
theorem dX7_ofField_5 : decode cX7_ofField 5 = .ok (.iload_n 2, 1) := by decide +kernel
theorem dX7_ofField_6 : decode cX7_ofField 6 = .ok (.invokevirtual 75, 3) := by decide +kernel
theorem dX7_ofField_9 : decode cX7_ofField 9 = .ok (.ireturn, 1) := by decide +kernel
theorem dX7_ofGrower_0 : decode cX7_ofGrower 0 = .ok (.aload_n 0, 1) := by decide +kernel
theorem dX7_ofGrower_1 : decode cX7_ofGrower 1 = .ok (.getfield 10, 3) := by decide +kernel
theorem dX7_ofGrower_4 : decode cX7_ofGrower 4 = .ok (.iload_n 1, 1) := by decide +kernel
theorem dX7_ofGrower_5 : decode cX7_ofGrower 5 = .ok (.iload_n 2, 1) := by decide +kernel
theorem dX7_ofGrower_6 : decode cX7_ofGrower 6 = .ok (.invokevirtual 78, 3) := by decide +kernel
theorem dX7_ofGrower_9 : decode cX7_ofGrower 9 = .ok (.ireturn, 1) := by decide +kernel
theorem dX7_load_0 : decode cX7_load 0 = .ok (.aload_n 0, 1) := by decide +kernel
theorem dX7_load_1 : decode cX7_load 1 = .ok (.getfield 10, 3) := by decide +kernel
theorem dX7_load_4 : decode cX7_load 4 = .ok (.getfield 81, 3) := by decide +kernel
theorem dX7_load_7 : decode cX7_load 7 = .ok (.iload_n 1, 1) := by decide +kernel
theorem dX7_load_8 : decode cX7_load 8 = .ok (.iload_n 2, 1) := by decide +kernel
theorem dX7_load_9 : decode cX7_load 9 = .ok (.invokevirtual 85, 3) := by decide +kernel
theorem dX7_load_12 : decode cX7_load 12 = .ok (.ireturn, 1) := by decide +kernel
theorem dX7_count_0 : decode cX7_count 0 = .ok (.iload_n 1, 1) := by decide +kernel
theorem dX7_count_1 : decode cX7_count 1 = .ok (.lookupswitch 43 #[(18, 27), (19, 35)], 27) := by decide +kernel
theorem dX7_count_28 : decode cX7_count 28 = .ok (.aload_n 0, 1) := by decide +kernel
theorem dX7_count_29 : decode cX7_count 29 = .ok (.getfield 33, 3) := by decide +kernel
theorem dX7_count_32 : decode cX7_count 32 = .ok (.getfield 90, 3) := by decide +kernel
theorem dX7_count_35 : decode cX7_count 35 = .ok (.ireturn, 1) := by decide +kernel
theorem dX7_count_36 : decode cX7_count 36 = .ok (.aload_n 0, 1) := by decide +kernel
theorem dX7_count_37 : decode cX7_count 37 = .ok (.getfield 22, 3) := by decide +kernel
theorem dX7_count_40 : decode cX7_count 40 = .ok (.getfield 94, 3) := by decide +kernel
theorem dX7_count_43 : decode cX7_count 43 = .ok (.ireturn, 1) := by decide +kernel
theorem dX7_count_44 : decode cX7_count 44 = .ok (.aload_n 0, 1) := by decide +kernel

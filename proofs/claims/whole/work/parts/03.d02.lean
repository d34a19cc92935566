theorem dX3_quotaOf_8 : decode cX3_quotaOf 8 = .ok (.getfield 25, 3) := by decide +kernel
theorem dX3_quotaOf_11 : decode cX3_quotaOf 11 = .ok (.getfield 119, 3) := by decide +kernel
theorem dX3_quotaOf_14 : decode cX3_quotaOf 14 = .ok (.iload_n 1, 1) := by decide +kernel
theorem dX3_quotaOf_15 : decode cX3_quotaOf 15 = .ok (.iaload, 1) := by decide +kernel
theorem dX3_quotaOf_16 : decode cX3_quotaOf 16 = .ok (.iaload, 1) := by decide +kernel
theorem dX3_quotaOf_17 : decode cX3_quotaOf 17 = .ok (.ireturn, 1) := by decide +kernel
theorem dX3_room_0 : decode cX3_room 0 = .ok (.aload_n 0, 1) := by decide +kernel
theorem dX3_room_1 : decode cX3_room 1 = .ok (.getfield 39, 3) := by decide +kernel
theorem dX3_room_4 : decode cX3_room 4 = .ok (.getfield 148, 3) := by decide +kernel
theorem dX3_room_7 : decode cX3_room 7 = .ok (.sipush 400, 3) := by decide +kernel
theorem dX3_room_10 : decode cX3_room 10 = .ok (.if_icmp .ge 20, 3) := by decide +kernel
theorem dX3_room_13 : decode cX3_room 13 = .ok (.aload_n 0, 1) := by decide +kernel
theorem dX3_room_14 : decode cX3_room 14 = .ok (.getfield 9, 3) := by decide +kernel
theorem dX3_room_17 : decode cX3_room 17 = .ok (.iconst 3, 1) := by decide +kernel
theorem dX3_room_18 : decode cX3_room 18 = .ok (.iaload, 1) := by decide +kernel
theorem dX3_room_19 : decode cX3_room 19 = .ok (.aload_n 0, 1) := by decide +kernel
theorem dX3_room_20 : decode cX3_room 20 = .ok (.getfield 39, 3) := by decide +kernel
theorem dX3_room_23 : decode cX3_room 23 = .ok (.getfield 151, 3) := by decide +kernel
theorem dX3_room_26 : decode cX3_room 26 = .ok (.isub, 1) := by decide +kernel
theorem dX3_room_27 : decode cX3_room 27 = .ok (.goto 4, 3) := by decide +kernel
theorem dX3_room_30 : decode cX3_room 30 = .ok (.iconst 0, 1) := by decide +kernel
theorem dX3_room_31 : decode cX3_room 31 = .ok (.ireturn, 1) := by decide +kernel
theorem dX3_bringLoad_0 : decode cX3_bringLoad 0 = .ok (.aload_n 0, 1) := by decide +kernel
theorem dX3_bringLoad_1 : decode cX3_bringLoad 1 = .ok (.getfield 9, 3) := by decide +kernel
theorem dX3_bringLoad_4 : decode cX3_bringLoad 4 = .ok (.iconst 1, 1) := by decide +kernel
theorem dX3_bringLoad_5 : decode cX3_bringLoad 5 = .ok (.iaload, 1) := by decide +kernel
theorem dX3_bringLoad_6 : decode cX3_bringLoad 6 = .ok (.aload_n 0, 1) := by decide +kernel
theorem dX3_bringLoad_7 : decode cX3_bringLoad 7 = .ok (.getfield 25, 3) := by decide +kernel
theorem dX3_bringLoad_10 : decode cX3_bringLoad 10 = .ok (.getfield 154, 3) := by decide +kernel
theorem dX3_bringLoad_13 : decode cX3_bringLoad 13 = .ok (.iload_n 1, 1) := by decide +kernel
theorem dX3_bringLoad_14 : decode cX3_bringLoad 14 = .ok (.iaload, 1) := by decide +kernel
theorem dX3_bringLoad_15 : decode cX3_bringLoad 15 = .ok (.invokestatic 157, 3) := by decide +kernel
theorem dX3_bringLoad_18 : decode cX3_bringLoad 18 = .ok (.istore_n 2, 1) := by decide +kernel
theorem dX3_bringLoad_19 : decode cX3_bringLoad 19 = .ok (.iload_n 2, 1) := by decide +kernel
theorem dX3_bringLoad_20 : decode cX3_bringLoad 20 = .ok (.aload_n 0, 1) := by decide +kernel
theorem dX3_bringLoad_21 : decode cX3_bringLoad 21 = .ok (.iload_n 1, 1) := by decide +kernel
theorem dX3_bringLoad_22 : decode cX3_bringLoad 22 = .ok (.invokevirtual 141, 3) := by decide +kernel
theorem dX3_bringLoad_25 : decode cX3_bringLoad 25 = .ok (.aload_n 0, 1) := by decide +kernel
theorem dX3_bringLoad_26 : decode cX3_bringLoad 26 = .ok (.invokevirtual 134, 3) := by decide +kernel
theorem dX3_bringLoad_29 : decode cX3_bringLoad 29 = .ok (.invokestatic 157, 3) := by decide +kernel
theorem dX3_bringLoad_32 : decode cX3_bringLoad 32 = .ok (.invokestatic 157, 3) := by decide +kernel
theorem dX3_bringLoad_35 : decode cX3_bringLoad 35 = .ok (.istore_n 3, 1) := by decide +kernel
theorem dX3_bringLoad_36 : decode cX3_bringLoad 36 = .ok (.aload_n 0, 1) := by decide +kernel
theorem dX3_bringLoad_37 : decode cX3_bringLoad 37 = .ok (.getfield 25, 3) := by decide +kernel
theorem dX3_bringLoad_40 : decode cX3_bringLoad 40 = .ok (.getfield 119, 3) := by decide +kernel
theorem dX3_bringLoad_43 : decode cX3_bringLoad 43 = .ok (.iload_n 1, 1) := by decide +kernel
theorem dX3_bringLoad_44 : decode cX3_bringLoad 44 = .ok (.iaload, 1) := by decide +kernel
theorem dX3_bringLoad_45 : decode cX3_bringLoad 45 = .ok (.istore 4, 2) := by decide +kernel
theorem dX3_bringLoad_47 : decode cX3_bringLoad 47 = .ok (.aload_n 0, 1) := by decide +kernel
theorem dX3_bringLoad_48 : decode cX3_bringLoad 48 = .ok (.getfield 18, 3) := by decide +kernel
theorem dX3_bringLoad_51 : decode cX3_bringLoad 51 = .ok (.getfield 87, 3) := by decide +kernel
theorem dX3_bringLoad_54 : decode cX3_bringLoad 54 = .ok (.iload 4, 2) := by decide +kernel
theorem dX3_bringLoad_56 : decode cX3_bringLoad 56 = .ok (.dup2, 1) := by decide +kernel
theorem dX3_bringLoad_57 : decode cX3_bringLoad 57 = .ok (.iaload, 1) := by decide +kernel
theorem dX3_bringLoad_58 : decode cX3_bringLoad 58 = .ok (.iload_n 3, 1) := by decide +kernel
theorem dX3_bringLoad_59 : decode cX3_bringLoad 59 = .ok (.isub, 1) := by decide +kernel
theorem dX3_bringLoad_60 : decode cX3_bringLoad 60 = .ok (.iastore, 1) := by decide +kernel
theorem dX3_bringLoad_61 : decode cX3_bringLoad 61 = .ok (.aload_n 0, 1) := by decide +kernel
theorem dX3_bringLoad_62 : decode cX3_bringLoad 62 = .ok (.getfield 18, 3) := by decide +kernel
theorem dX3_bringLoad_65 : decode cX3_bringLoad 65 = .ok (.getfield 162, 3) := by decide +kernel
theorem dX3_bringLoad_68 : decode cX3_bringLoad 68 = .ok (.iload 4, 2) := by decide +kernel
theorem dX3_bringLoad_70 : decode cX3_bringLoad 70 = .ok (.dup2, 1) := by decide +kernel
theorem dX3_bringLoad_71 : decode cX3_bringLoad 71 = .ok (.iaload, 1) := by decide +kernel
theorem dX3_bringLoad_72 : decode cX3_bringLoad 72 = .ok (.iload_n 3, 1) := by decide +kernel
theorem dX3_bringLoad_73 : decode cX3_bringLoad 73 = .ok (.iadd, 1) := by decide +kernel
theorem dX3_bringLoad_74 : decode cX3_bringLoad 74 = .ok (.iastore, 1) := by decide +kernel
theorem dX3_bringLoad_75 : decode cX3_bringLoad 75 = .ok (.aload_n 0, 1) := by decide +kernel
theorem dX3_bringLoad_76 : decode cX3_bringLoad 76 = .ok (.getfield 25, 3) := by decide +kernel
theorem dX3_bringLoad_79 : decode cX3_bringLoad 79 = .ok (.getfield 154, 3) := by decide +kernel
theorem dX3_bringLoad_82 : decode cX3_bringLoad 82 = .ok (.iload_n 1, 1) := by decide +kernel
theorem dX3_bringLoad_83 : decode cX3_bringLoad 83 = .ok (.dup2, 1) := by decide +kernel
theorem dX3_bringLoad_84 : decode cX3_bringLoad 84 = .ok (.iaload, 1) := by decide +kernel
theorem dX3_bringLoad_85 : decode cX3_bringLoad 85 = .ok (.iload_n 3, 1) := by decide +kernel
theorem dX3_bringLoad_86 : decode cX3_bringLoad 86 = .ok (.isub, 1) := by decide +kernel
theorem dX3_bringLoad_87 : decode cX3_bringLoad 87 = .ok (.iastore, 1) := by decide +kernel
theorem dX3_bringLoad_88 : decode cX3_bringLoad 88 = .ok (.aload_n 0, 1) := by decide +kernel
theorem dX3_bringLoad_89 : decode cX3_bringLoad 89 = .ok (.getfield 25, 3) := by decide +kernel
theorem dX3_bringLoad_92 : decode cX3_bringLoad 92 = .ok (.getfield 165, 3) := by decide +kernel
theorem dX3_bringLoad_95 : decode cX3_bringLoad 95 = .ok (.iload_n 1, 1) := by decide +kernel
theorem dX3_bringLoad_96 : decode cX3_bringLoad 96 = .ok (.dup2, 1) := by decide +kernel
theorem dX3_bringLoad_97 : decode cX3_bringLoad 97 = .ok (.iaload, 1) := by decide +kernel
theorem dX3_bringLoad_98 : decode cX3_bringLoad 98 = .ok (.iload_n 3, 1) := by decide +kernel
theorem dX3_bringLoad_99 : decode cX3_bringLoad 99 = .ok (.iadd, 1) := by decide +kernel
theorem dX3_bringLoad_100 : decode cX3_bringLoad 100 = .ok (.iastore, 1) := by decide +kernel
theorem dX3_bringLoad_101 : decode cX3_bringLoad 101 = .ok (.aload_n 0, 1) := by decide +kernel
theorem dX3_bringLoad_102 : decode cX3_bringLoad 102 = .ok (.getfield 39, 3) := by decide +kernel
theorem dX3_bringLoad_105 : decode cX3_bringLoad 105 = .ok (.iload_n 1, 1) := by decide +kernel
theorem dX3_bringLoad_106 : decode cX3_bringLoad 106 = .ok (.iload_n 3, 1) := by decide +kernel
theorem dX3_bringLoad_107 : decode cX3_bringLoad 107 = .ok (.aload_n 0, 1) := by decide +kernel
theorem dX3_bringLoad_108 : decode cX3_bringLoad 108 = .ok (.getfield 60, 3) := by decide +kernel
theorem dX3_bringLoad_111 : decode cX3_bringLoad 111 = .ok (.invokevirtual 168, 3) := by decide +kernel
theorem dX3_bringLoad_114 : decode cX3_bringLoad 114 = .ok (.aload_n 0, 1) := by decide +kernel
theorem dX3_bringLoad_115 : decode cX3_bringLoad 115 = .ok (.dup, 1) := by decide +kernel
theorem dX3_bringLoad_116 : decode cX3_bringLoad 116 = .ok (.getfield 67, 3) := by decide +kernel
theorem dX3_bringLoad_119 : decode cX3_bringLoad 119 = .ok (.iconst 1, 1) := by decide +kernel
theorem dX3_bringLoad_120 : decode cX3_bringLoad 120 = .ok (.iadd, 1) := by decide +kernel
theorem dX3_bringLoad_121 : decode cX3_bringLoad 121 = .ok (.putfield 67, 3) := by decide +kernel
theorem dX3_bringLoad_124 : decode cX3_bringLoad 124 = .ok (.return_, 1) := by decide +kernel
theorem dX3_crush_0 : decode cX3_crush 0 = .ok (.aload_n 0, 1) := by decide +kernel
theorem dX3_crush_1 : decode cX3_crush 1 = .ok (.getfield 9, 3) := by decide +kernel
theorem dX3_crush_4 : decode cX3_crush 4 = .ok (.iconst 2, 1) := by decide +kernel
theorem dX3_crush_5 : decode cX3_crush 5 = .ok (.iaload, 1) := by decide +kernel
theorem dX3_crush_6 : decode cX3_crush 6 = .ok (.istore_n 1, 1) := by decide +kernel
theorem dX3_crush_7 : decode cX3_crush 7 = .ok (.iconst 0, 1) := by decide +kernel
theorem dX3_crush_8 : decode cX3_crush 8 = .ok (.istore_n 2, 1) := by decide +kernel
theorem dX3_crush_9 : decode cX3_crush 9 = .ok (.iconst 0, 1) := by decide +kernel
theorem dX3_crush_10 : decode cX3_crush 10 = .ok (.istore_n 3, 1) := by decide +kernel
theorem dX3_crush_11 : decode cX3_crush 11 = .ok (.iload_n 3, 1) := by decide +kernel
theorem dX3_crush_12 : decode cX3_crush 12 = .ok (.aload_n 0, 1) := by decide +kernel
theorem dX3_crush_13 : decode cX3_crush 13 = .ok (.getfield 39, 3) := by decide +kernel
theorem dX3_crush_16 : decode cX3_crush 16 = .ok (.getfield 148, 3) := by decide +kernel
theorem dX3_crush_19 : decode cX3_crush 19 = .ok (.if_icmp .ge 64, 3) := by decide +kernel
theorem dX3_crush_22 : decode cX3_crush 22 = .ok (.iload_n 1, 1) := by decide +kernel
theorem dX3_crush_23 : decode cX3_crush 23 = .ok (.ifCond .le 60, 3) := by decide +kernel
theorem dX3_crush_26 : decode cX3_crush 26 = .ok (.iload_n 1, 1) := by decide +kernel
theorem dX3_crush_27 : decode cX3_crush 27 = .ok (.aload_n 0, 1) := by decide +kernel
theorem dX3_crush_28 : decode cX3_crush 28 = .ok (.getfield 39, 3) := by decide +kernel
theorem dX3_crush_31 : decode cX3_crush 31 = .ok (.getfield 171, 3) := by decide +kernel
theorem dX3_crush_34 : decode cX3_crush 34 = .ok (.iload_n 3, 1) := by decide +kernel
theorem dX3_crush_35 : decode cX3_crush 35 = .ok (.iaload, 1) := by decide +kernel
theorem dX3_crush_36 : decode cX3_crush 36 = .ok (.invokestatic 157, 3) := by decide +kernel
theorem dX3_crush_39 : decode cX3_crush 39 = .ok (.istore 4, 2) := by decide +kernel
theorem dX3_crush_41 : decode cX3_crush 41 = .ok (.aload_n 0, 1) := by decide +kernel
theorem dX3_crush_42 : decode cX3_crush 42 = .ok (.aload_n 0, 1) := by decide +kernel
theorem dX3_crush_43 : decode cX3_crush 43 = .ok (.getfield 39, 3) := by decide +kernel
theorem dX3_crush_46 : decode cX3_crush 46 = .ok (.getfield 174, 3) := by decide +kernel
theorem dX3_crush_49 : decode cX3_crush 49 = .ok (.iload_n 3, 1) := by decide +kernel
theorem dX3_crush_50 : decode cX3_crush 50 = .ok (.iaload, 1) := by decide +kernel
theorem dX3_crush_51 : decode cX3_crush 51 = .ok (.iload 4, 2) := by decide +kernel
theorem dX3_crush_53 : decode cX3_crush 53 = .ok (.invokevirtual 177, 3) := by decide +kernel
theorem dX3_crush_56 : decode cX3_crush 56 = .ok (.iload_n 1, 1) := by decide +kernel
theorem dX3_crush_57 : decode cX3_crush 57 = .ok (.iload 4, 2) := by decide +kernel
theorem dX3_crush_59 : decode cX3_crush 59 = .ok (.isub, 1) := by decide +kernel
theorem dX3_crush_60 : decode cX3_crush 60 = .ok (.istore_n 1, 1) := by decide +kernel
theorem dX3_crush_61 : decode cX3_crush 61 = .ok (.aload_n 0, 1) := by decide +kernel
theorem dX3_crush_62 : decode cX3_crush 62 = .ok (.getfield 39, 3) := by decide +kernel
theorem dX3_crush_65 : decode cX3_crush 65 = .ok (.iload_n 3, 1) := by decide +kernel
theorem dX3_crush_66 : decode cX3_crush 66 = .ok (.iload 4, 2) := by decide +kernel
theorem dX3_crush_68 : decode cX3_crush 68 = .ok (.invokevirtual 181, 3) := by decide +kernel
theorem dX3_crush_71 : decode cX3_crush 71 = .ok (.ifCond .ne 6, 3) := by decide +kernel
theorem dX3_crush_74 : decode cX3_crush 74 = .ok (.iinc 2 1, 3) := by decide +kernel
theorem dX3_crush_77 : decode cX3_crush 77 = .ok (.iinc 3 1, 3) := by decide +kernel
theorem dX3_crush_80 : decode cX3_crush 80 = .ok (.goto (-69), 3) := by decide +kernel
theorem dX3_crush_83 : decode cX3_crush 83 = .ok (.aload_n 0, 1) := by decide +kernel
theorem dX3_crush_84 : decode cX3_crush 84 = .ok (.getfield 39, 3) := by decide +kernel
theorem dX3_crush_87 : decode cX3_crush 87 = .ok (.iload_n 2, 1) := by decide +kernel
theorem dX3_crush_88 : decode cX3_crush 88 = .ok (.invokevirtual 184, 3) := by decide +kernel
theorem dX3_crush_91 : decode cX3_crush 91 = .ok (.return_, 1) := by decide +kernel
theorem dX3_crushPart_0 : decode cX3_crushPart 0 = .ok (.aload_n 0, 1) := by decide +kernel
theorem dX3_crushPart_1 : decode cX3_crushPart 1 = .ok (.getfield 25, 3) := by decide +kernel
theorem dX3_crushPart_4 : decode cX3_crushPart 4 = .ok (.getfield 119, 3) := by decide +kernel
theorem dX3_crushPart_7 : decode cX3_crushPart 7 = .ok (.iload_n 1, 1) := by decide +kernel
theorem dX3_crushPart_8 : decode cX3_crushPart 8 = .ok (.iaload, 1) := by decide +kernel
theorem dX3_crushPart_9 : decode cX3_crushPart 9 = .ok (.istore_n 3, 1) := by decide +kernel
theorem dX3_crushPart_10 : decode cX3_crushPart 10 = .ok (.aload_n 0, 1) := by decide +kernel
theorem dX3_crushPart_11 : decode cX3_crushPart 11 = .ok (.getfield 25, 3) := by decide +kernel
theorem dX3_crushPart_14 : decode cX3_crushPart 14 = .ok (.iload_n 1, 1) := by decide +kernel
theorem dX3_crushPart_15 : decode cX3_crushPart 15 = .ok (.aload_n 0, 1) := by decide +kernel
theorem dX3_crushPart_16 : decode cX3_crushPart 16 = .ok (.getfield 60, 3) := by decide +kernel
theorem dX3_crushPart_19 : decode cX3_crushPart 19 = .ok (.aload_n 0, 1) := by decide +kernel
theorem dX3_crushPart_20 : decode cX3_crushPart 20 = .ok (.getfield 9, 3) := by decide +kernel
theorem dX3_crushPart_23 : decode cX3_crushPart 23 = .ok (.iconst 4, 1) := by decide +kernel
theorem dX3_crushPart_24 : decode cX3_crushPart 24 = .ok (.iaload, 1) := by decide +kernel
theorem dX3_crushPart_25 : decode cX3_crushPart 25 = .ok (.invokevirtual 187, 3) := by decide +kernel
theorem dX3_crushPart_28 : decode cX3_crushPart 28 = .ok (.istore 4, 2) := by decide +kernel
theorem dX3_crushPart_30 : decode cX3_crushPart 30 = .ok (.aload_n 0, 1) := by decide +kernel
theorem dX3_crushPart_31 : decode cX3_crushPart 31 = .ok (.dup, 1) := by decide +kernel
theorem dX3_crushPart_32 : decode cX3_crushPart 32 = .ok (.getfield 64, 3) := by decide +kernel
theorem dX3_crushPart_35 : decode cX3_crushPart 35 = .ok (.iload_n 2, 1) := by decide +kernel
theorem dX3_crushPart_36 : decode cX3_crushPart 36 = .ok (.iload 4, 2) := by decide +kernel
theorem dX3_crushPart_38 : decode cX3_crushPart 38 = .ok (.imul, 1) := by decide +kernel
theorem dX3_crushPart_39 : decode cX3_crushPart 39 = .ok (.bipush 100, 2) := by decide +kernel
theorem dX3_crushPart_41 : decode cX3_crushPart 41 = .ok (.idiv, 1) := by decide +kernel
theorem dX3_crushPart_42 : decode cX3_crushPart 42 = .ok (.iadd, 1) := by decide +kernel
theorem dX3_crushPart_43 : decode cX3_crushPart 43 = .ok (.putfield 64, 3) := by decide +kernel
theorem dX3_crushPart_46 : decode cX3_crushPart 46 = .ok (.aload_n 0, 1) := by decide +kernel
theorem dX3_crushPart_47 : decode cX3_crushPart 47 = .ok (.getfield 18, 3) := by decide +kernel
theorem dX3_crushPart_50 : decode cX3_crushPart 50 = .ok (.getfield 191, 3) := by decide +kernel
theorem dX3_crushPart_53 : decode cX3_crushPart 53 = .ok (.iload_n 3, 1) := by decide +kernel
theorem dX3_crushPart_54 : decode cX3_crushPart 54 = .ok (.dup2, 1) := by decide +kernel
theorem dX3_crushPart_55 : decode cX3_crushPart 55 = .ok (.iaload, 1) := by decide +kernel
theorem dX3_crushPart_56 : decode cX3_crushPart 56 = .ok (.iload_n 2, 1) := by decide +kernel
theorem dX3_crushPart_57 : decode cX3_crushPart 57 = .ok (.iload 4, 2) := by decide +kernel
theorem dX3_crushPart_59 : decode cX3_crushPart 59 = .ok (.imul, 1) := by decide +kernel
theorem dX3_crushPart_60 : decode cX3_crushPart 60 = .ok (.aload_n 0, 1) := by decide +kernel
theorem dX3_crushPart_61 : decode cX3_crushPart 61 = .ok (.getfield 9, 3) := by decide +kernel
theorem dX3_crushPart_64 : decode cX3_crushPart 64 = .ok (.bipush 6, 2) := by decide +kernel
theorem dX3_crushPart_66 : decode cX3_crushPart 66 = .ok (.iaload, 1) := by decide +kernel
theorem dX3_crushPart_67 : decode cX3_crushPart 67 = .ok (.imul, 1) := by decide +kernel
theorem dX3_crushPart_68 : decode cX3_crushPart 68 = .ok (.bipush 100, 2) := by decide +kernel
theorem dX3_crushPart_70 : decode cX3_crushPart 70 = .ok (.idiv, 1) := by decide +kernel
theorem dX3_crushPart_71 : decode cX3_crushPart 71 = .ok (.iadd, 1) := by decide +kernel
theorem dX3_crushPart_72 : decode cX3_crushPart 72 = .ok (.iastore, 1) := by decide +kernel
theorem dX3_crushPart_73 : decode cX3_crushPart 73 = .ok (.aload_n 0, 1) := by decide +kernel
theorem dX3_crushPart_74 : decode cX3_crushPart 74 = .ok (.getfield 18, 3) := by decide +kernel
theorem dX3_crushPart_77 : decode cX3_crushPart 77 = .ok (.getfield 194, 3) := by decide +kernel
theorem dX3_crushPart_80 : decode cX3_crushPart 80 = .ok (.iload_n 3, 1) := by decide +kernel
theorem dX3_crushPart_81 : decode cX3_crushPart 81 = .ok (.dup2, 1) := by decide +kernel
theorem dX3_crushPart_82 : decode cX3_crushPart 82 = .ok (.iaload, 1) := by decide +kernel
theorem dX3_crushPart_83 : decode cX3_crushPart 83 = .ok (.iload_n 2, 1) := by decide +kernel
theorem dX3_crushPart_84 : decode cX3_crushPart 84 = .ok (.iadd, 1) := by decide +kernel
theorem dX3_crushPart_85 : decode cX3_crushPart 85 = .ok (.iastore, 1) := by decide +kernel
theorem dX3_crushPart_86 : decode cX3_crushPart 86 = .ok (.aload_n 0, 1) := by decide +kernel
theorem dX3_crushPart_87 : decode cX3_crushPart 87 = .ok (.getfield 25, 3) := by decide +kernel
theorem dX3_crushPart_90 : decode cX3_crushPart 90 = .ok (.getfield 165, 3) := by decide +kernel
theorem dX3_crushPart_93 : decode cX3_crushPart 93 = .ok (.iload_n 1, 1) := by decide +kernel
theorem dX3_crushPart_94 : decode cX3_crushPart 94 = .ok (.dup2, 1) := by decide +kernel
theorem dX3_crushPart_95 : decode cX3_crushPart 95 = .ok (.iaload, 1) := by decide +kernel
theorem dX3_crushPart_96 : decode cX3_crushPart 96 = .ok (.iload_n 2, 1) := by decide +kernel
theorem dX3_crushPart_97 : decode cX3_crushPart 97 = .ok (.isub, 1) := by decide +kernel
theorem dX3_crushPart_98 : decode cX3_crushPart 98 = .ok (.iastore, 1) := by decide +kernel
theorem dX3_crushPart_99 : decode cX3_crushPart 99 = .ok (.aload_n 0, 1) := by decide +kernel
theorem dX3_crushPart_100 : decode cX3_crushPart 100 = .ok (.getfield 25, 3) := by decide +kernel
theorem dX3_crushPart_103 : decode cX3_crushPart 103 = .ok (.getfield 197, 3) := by decide +kernel
theorem dX3_crushPart_106 : decode cX3_crushPart 106 = .ok (.iload_n 1, 1) := by decide +kernel
theorem dX3_crushPart_107 : decode cX3_crushPart 107 = .ok (.dup2, 1) := by decide +kernel
theorem dX3_crushPart_108 : decode cX3_crushPart 108 = .ok (.iaload, 1) := by decide +kernel
theorem dX3_crushPart_109 : decode cX3_crushPart 109 = .ok (.iload_n 2, 1) := by decide +kernel
theorem dX3_crushPart_110 : decode cX3_crushPart 110 = .ok (.iadd, 1) := by decide +kernel
theorem dX3_crushPart_111 : decode cX3_crushPart 111 = .ok (.iastore, 1) := by decide +kernel
theorem dX3_crushPart_112 : decode cX3_crushPart 112 = .ok (.return_, 1) := by decide +kernel
theorem dX3_numberOfField_0 : decode cX3_numberOfField 0 = .ok (.iload_n 1, 1) := by decide +kernel
theorem dX3_numberOfField_1 : decode cX3_numberOfField 1 = .ok (.iconst 0, 1) := by decide +kernel
theorem dX3_numberOfField_2 : decode cX3_numberOfField 2 = .ok (.aload_n 0, 1) := by decide +kernel
theorem dX3_numberOfField_3 : decode cX3_numberOfField 3 = .ok (.getfield 25, 3) := by decide +kernel
theorem dX3_numberOfField_6 : decode cX3_numberOfField 6 = .ok (.getfield 110, 3) := by decide +kernel
theorem dX3_numberOfField_9 : decode cX3_numberOfField 9 = .ok (.iconst 1, 1) := by decide +kernel
theorem dX3_numberOfField_10 : decode cX3_numberOfField 10 = .ok (.isub, 1) := by decide +kernel
theorem dX3_numberOfField_11 : decode cX3_numberOfField 11 = .ok (.invokestatic 73, 3) := by decide +kernel
theorem dX3_numberOfField_14 : decode cX3_numberOfField 14 = .ok (.ifCond .ne 5, 3) := by decide +kernel
theorem dX3_numberOfField_17 : decode cX3_numberOfField 17 = .ok (.iconst (-1), 1) := by decide +kernel
theorem dX3_numberOfField_18 : decode cX3_numberOfField 18 = .ok (.ireturn, 1) := by decide +kernel
theorem dX3_numberOfField_19 : decode cX3_numberOfField 19 = .ok (.iload_n 2, 1) := by decide +kernel
theorem dX3_numberOfField_20 : decode cX3_numberOfField 20 = .ok (.tableswitch 168 0 9 #[56, 66, 76, 86, 96, 109, 119, 129, 139, 149], 56) := by decide +kernel
theorem dX3_numberOfField_76 : decode cX3_numberOfField 76 = .ok (.aload_n 0, 1) := by decide +kernel
theorem dX3_numberOfField_77 : decode cX3_numberOfField 77 = .ok (.getfield 25, 3) := by decide +kernel
theorem dX3_numberOfField_80 : decode cX3_numberOfField 80 = .ok (.getfield 119, 3) := by decide +kernel
theorem dX3_numberOfField_83 : decode cX3_numberOfField 83 = .ok (.iload_n 1, 1) := by decide +kernel
theorem dX3_numberOfField_84 : decode cX3_numberOfField 84 = .ok (.iaload, 1) := by decide +kernel
theorem dX3_numberOfField_85 : decode cX3_numberOfField 85 = .ok (.ireturn, 1) := by decide +kernel
theorem dX3_numberOfField_86 : decode cX3_numberOfField 86 = .ok (.aload_n 0, 1) := by decide +kernel
theorem dX3_numberOfField_87 : decode cX3_numberOfField 87 = .ok (.getfield 25, 3) := by decide +kernel
theorem dX3_numberOfField_90 : decode cX3_numberOfField 90 = .ok (.getfield 198, 3) := by decide +kernel
theorem dX3_numberOfField_93 : decode cX3_numberOfField 93 = .ok (.iload_n 1, 1) := by decide +kernel
theorem dX3_numberOfField_94 : decode cX3_numberOfField 94 = .ok (.iaload, 1) := by decide +kernel
theorem dX3_numberOfField_95 : decode cX3_numberOfField 95 = .ok (.ireturn, 1) := by decide +kernel
theorem dX3_numberOfField_96 : decode cX3_numberOfField 96 = .ok (.aload_n 0, 1) := by decide +kernel
theorem dX3_numberOfField_97 : decode cX3_numberOfField 97 = .ok (.getfield 25, 3) := by decide +kernel
theorem dX3_numberOfField_100 : decode cX3_numberOfField 100 = .ok (.getfield 199, 3) := by decide +kernel
theorem dX3_numberOfField_103 : decode cX3_numberOfField 103 = .ok (.iload_n 1, 1) := by decide +kernel
theorem dX3_numberOfField_104 : decode cX3_numberOfField 104 = .ok (.iaload, 1) := by decide +kernel
theorem dX3_numberOfField_105 : decode cX3_numberOfField 105 = .ok (.ireturn, 1) := by decide +kernel
theorem dX3_numberOfField_106 : decode cX3_numberOfField 106 = .ok (.aload_n 0, 1) := by decide +kernel
theorem dX3_numberOfField_107 : decode cX3_numberOfField 107 = .ok (.getfield 25, 3) := by decide +kernel
theorem dX3_numberOfField_110 : decode cX3_numberOfField 110 = .ok (.getfield 113, 3) := by decide +kernel
theorem dX3_numberOfField_113 : decode cX3_numberOfField 113 = .ok (.iload_n 1, 1) := by decide +kernel
theorem dX3_numberOfField_114 : decode cX3_numberOfField 114 = .ok (.iaload, 1) := by decide +kernel
theorem dX3_numberOfField_115 : decode cX3_numberOfField 115 = .ok (.ireturn, 1) := by decide +kernel
theorem dX3_numberOfField_116 : decode cX3_numberOfField 116 = .ok (.aload_n 0, 1) := by decide +kernel
theorem dX3_numberOfField_117 : decode cX3_numberOfField 117 = .ok (.getfield 25, 3) := by decide +kernel
theorem dX3_numberOfField_120 : decode cX3_numberOfField 120 = .ok (.iload_n 1, 1) := by decide +kernel
theorem dX3_numberOfField_121 : decode cX3_numberOfField 121 = .ok (.aload_n 0, 1) := by decide +kernel
theorem dX3_numberOfField_122 : decode cX3_numberOfField 122 = .ok (.getfield 60, 3) := by decide +kernel
theorem dX3_numberOfField_125 : decode cX3_numberOfField 125 = .ok (.invokevirtual 137, 3) := by decide +kernel
theorem dX3_numberOfField_128 : decode cX3_numberOfField 128 = .ok (.ireturn, 1) := by decide +kernel
theorem dX3_numberOfField_129 : decode cX3_numberOfField 129 = .ok (.aload_n 0, 1) := by decide +kernel
theorem dX3_numberOfField_130 : decode cX3_numberOfField 130 = .ok (.getfield 25, 3) := by decide +kernel
theorem dX3_numberOfField_133 : decode cX3_numberOfField 133 = .ok (.getfield 154, 3) := by decide +kernel
theorem dX3_numberOfField_136 : decode cX3_numberOfField 136 = .ok (.iload_n 1, 1) := by decide +kernel
theorem dX3_numberOfField_137 : decode cX3_numberOfField 137 = .ok (.iaload, 1) := by decide +kernel
theorem dX3_numberOfField_138 : decode cX3_numberOfField 138 = .ok (.ireturn, 1) := by decide +kernel
theorem dX3_numberOfField_139 : decode cX3_numberOfField 139 = .ok (.aload_n 0, 1) := by decide +kernel
theorem dX3_numberOfField_140 : decode cX3_numberOfField 140 = .ok (.getfield 25, 3) := by decide +kernel
theorem dX3_numberOfField_143 : decode cX3_numberOfField 143 = .ok (.getfield 165, 3) := by decide +kernel
theorem dX3_numberOfField_146 : decode cX3_numberOfField 146 = .ok (.iload_n 1, 1) := by decide +kernel
theorem dX3_numberOfField_147 : decode cX3_numberOfField 147 = .ok (.iaload, 1) := by decide +kernel
theorem dX3_numberOfField_148 : decode cX3_numberOfField 148 = .ok (.ireturn, 1) := by decide +kernel
theorem dX3_numberOfField_149 : decode cX3_numberOfField 149 = .ok (.aload_n 0, 1) := by decide +kernel
theorem dX3_numberOfField_150 : decode cX3_numberOfField 150 = .ok (.getfield 25, 3) := by decide +kernel
theorem dX3_numberOfField_153 : decode cX3_numberOfField 153 = .ok (.getfield 197, 3) := by decide +kernel
theorem dX3_numberOfField_156 : decode cX3_numberOfField 156 = .ok (.iload_n 1, 1) := by decide +kernel
theorem dX3_numberOfField_157 : decode cX3_numberOfField 157 = .ok (.iaload, 1) := by decide +kernel
theorem dX3_numberOfField_158 : decode cX3_numberOfField 158 = .ok (.ireturn, 1) := by decide +kernel
theorem dX3_numberOfField_159 : decode cX3_numberOfField 159 = .ok (.aload_n 0, 1) := by decide +kernel
theorem dX3_numberOfField_160 : decode cX3_numberOfField 160 = .ok (.getfield 25, 3) := by decide +kernel
theorem dX3_numberOfField_163 : decode cX3_numberOfField 163 = .ok (.getfield 202, 3) := by decide +kernel
theorem dX3_numberOfField_166 : decode cX3_numberOfField 166 = .ok (.iload_n 1, 1) := by decide +kernel
theorem dX3_numberOfField_167 : decode cX3_numberOfField 167 = .ok (.iaload, 1) := by decide +kernel
theorem dX3_numberOfField_168 : decode cX3_numberOfField 168 = .ok (.ireturn, 1) := by decide +kernel
theorem dX3_numberOfField_169 : decode cX3_numberOfField 169 = .ok (.aload_n 0, 1) := by decide +kernel
theorem dX3_numberOfField_170 : decode cX3_numberOfField 170 = .ok (.getfield 25, 3) := by decide +kernel
theorem dX3_numberOfField_173 : decode cX3_numberOfField 173 = .ok (.iload_n 1, 1) := by decide +kernel
theorem dX3_numberOfField_174 : decode cX3_numberOfField 174 = .ok (.aload_n 0, 1) := by decide +kernel
theorem dX3_numberOfField_175 : decode cX3_numberOfField 175 = .ok (.getfield 60, 3) := by decide +kernel
theorem dX3_numberOfField_178 : decode cX3_numberOfField 178 = .ok (.aload_n 0, 1) := by decide +kernel
theorem dX3_numberOfField_179 : decode cX3_numberOfField 179 = .ok (.getfield 9, 3) := by decide +kernel
theorem dX3_numberOfField_182 : decode cX3_numberOfField 182 = .ok (.iconst 4, 1) := by decide +kernel
theorem dX3_numberOfField_183 : decode cX3_numberOfField 183 = .ok (.iaload, 1) := by decide +kernel
theorem dX3_numberOfField_184 : decode cX3_numberOfField 184 = .ok (.invokevirtual 187, 3) := by decide +kernel
theorem dX3_numberOfField_187 : decode cX3_numberOfField 187 = .ok (.ireturn, 1) := by decide +kernel
theorem dX3_numberOfField_188 : decode cX3_numberOfField 188 = .ok (.bipush (-2), 2) := by decide +kernel
theorem dX3_numberOfField_190 : decode cX3_numberOfField 190 = .ok (.ireturn, 1) := by decide +kernel
theorem dX3_numberOfGrower_0 : decode cX3_numberOfGrower 0 = .ok (.iload_n 1, 1) := by decide +kernel
theorem dX3_numberOfGrower_1 : decode cX3_numberOfGrower 1 = .ok (.invokestatic 83, 3) := by decide +kernel
theorem dX3_numberOfGrower_4 : decode cX3_numberOfGrower 4 = .ok (.ifCond .ne 5, 3) := by decide +kernel
theorem dX3_numberOfGrower_7 : decode cX3_numberOfGrower 7 = .ok (.iconst (-1), 1) := by decide +kernel
theorem dX3_numberOfGrower_8 : decode cX3_numberOfGrower 8 = .ok (.ireturn, 1) := by decide +kernel
theorem dX3_numberOfGrower_9 : decode cX3_numberOfGrower 9 = .ok (.iload_n 2, 1) := by decide +kernel
theorem dX3_numberOfGrower_10 : decode cX3_numberOfGrower 10 = .ok (.tableswitch 101 0 5 #[38, 48, 58, 68, 78, 88], 38) := by decide +kernel
theorem dX3_numberOfGrower_48 : decode cX3_numberOfGrower 48 = .ok (.aload_n 0, 1) := by decide +kernel
theorem dX3_numberOfGrower_49 : decode cX3_numberOfGrower 49 = .ok (.getfield 18, 3) := by decide +kernel
theorem dX3_numberOfGrower_52 : decode cX3_numberOfGrower 52 = .ok (.getfield 87, 3) := by decide +kernel
theorem dX3_numberOfGrower_55 : decode cX3_numberOfGrower 55 = .ok (.iload_n 1, 1) := by decide +kernel
theorem dX3_numberOfGrower_56 : decode cX3_numberOfGrower 56 = .ok (.iaload, 1) := by decide +kernel
theorem dX3_numberOfGrower_57 : decode cX3_numberOfGrower 57 = .ok (.ireturn, 1) := by decide +kernel
theorem dX3_numberOfGrower_58 : decode cX3_numberOfGrower 58 = .ok (.aload_n 0, 1) := by decide +kernel
theorem dX3_numberOfGrower_59 : decode cX3_numberOfGrower 59 = .ok (.getfield 18, 3) := by decide +kernel
theorem dX3_numberOfGrower_62 : decode cX3_numberOfGrower 62 = .ok (.getfield 162, 3) := by decide +kernel
theorem dX3_numberOfGrower_65 : decode cX3_numberOfGrower 65 = .ok (.iload_n 1, 1) := by decide +kernel
theorem dX3_numberOfGrower_66 : decode cX3_numberOfGrower 66 = .ok (.iaload, 1) := by decide +kernel
theorem dX3_numberOfGrower_67 : decode cX3_numberOfGrower 67 = .ok (.ireturn, 1) := by decide +kernel
theorem dX3_numberOfGrower_68 : decode cX3_numberOfGrower 68 = .ok (.aload_n 0, 1) := by decide +kernel
theorem dX3_numberOfGrower_69 : decode cX3_numberOfGrower 69 = .ok (.getfield 18, 3) := by decide +kernel
theorem dX3_numberOfGrower_72 : decode cX3_numberOfGrower 72 = .ok (.getfield 194, 3) := by decide +kernel
theorem dX3_numberOfGrower_75 : decode cX3_numberOfGrower 75 = .ok (.iload_n 1, 1) := by decide +kernel
theorem dX3_numberOfGrower_76 : decode cX3_numberOfGrower 76 = .ok (.iaload, 1) := by decide +kernel
theorem dX3_numberOfGrower_77 : decode cX3_numberOfGrower 77 = .ok (.ireturn, 1) := by decide +kernel
theorem dX3_numberOfGrower_78 : decode cX3_numberOfGrower 78 = .ok (.aload_n 0, 1) := by decide +kernel
theorem dX3_numberOfGrower_79 : decode cX3_numberOfGrower 79 = .ok (.getfield 18, 3) := by decide +kernel
theorem dX3_numberOfGrower_82 : decode cX3_numberOfGrower 82 = .ok (.getfield 116, 3) := by decide +kernel
theorem dX3_numberOfGrower_85 : decode cX3_numberOfGrower 85 = .ok (.iload_n 1, 1) := by decide +kernel
theorem dX3_numberOfGrower_86 : decode cX3_numberOfGrower 86 = .ok (.iaload, 1) := by decide +kernel
theorem dX3_numberOfGrower_87 : decode cX3_numberOfGrower 87 = .ok (.ireturn, 1) := by decide +kernel
theorem dX3_numberOfGrower_88 : decode cX3_numberOfGrower 88 = .ok (.aload_n 0, 1) := by decide +kernel
theorem dX3_numberOfGrower_89 : decode cX3_numberOfGrower 89 = .ok (.getfield 18, 3) := by decide +kernel
theorem dX3_numberOfGrower_92 : decode cX3_numberOfGrower 92 = .ok (.getfield 191, 3) := by decide +kernel
theorem dX3_numberOfGrower_95 : decode cX3_numberOfGrower 95 = .ok (.iload_n 1, 1) := by decide +kernel
theorem dX3_numberOfGrower_96 : decode cX3_numberOfGrower 96 = .ok (.iaload, 1) := by decide +kernel
theorem dX3_numberOfGrower_97 : decode cX3_numberOfGrower 97 = .ok (.ireturn, 1) := by decide +kernel
theorem dX3_numberOfGrower_98 : decode cX3_numberOfGrower 98 = .ok (.aload_n 0, 1) := by decide +kernel
theorem dX3_numberOfGrower_99 : decode cX3_numberOfGrower 99 = .ok (.getfield 25, 3) := by decide +kernel
theorem dX3_numberOfGrower_102 : decode cX3_numberOfGrower 102 = .ok (.iload_n 1, 1) := by decide +kernel
theorem dX3_numberOfGrower_103 : decode cX3_numberOfGrower 103 = .ok (.aload_n 0, 1) := by decide +kernel
theorem dX3_numberOfGrower_104 : decode cX3_numberOfGrower 104 = .ok (.getfield 60, 3) := by decide +kernel
theorem dX3_numberOfGrower_107 : decode cX3_numberOfGrower 107 = .ok (.invokevirtual 203, 3) := by decide +kernel
theorem dX3_numberOfGrower_110 : decode cX3_numberOfGrower 110 = .ok (.ireturn, 1) := by decide +kernel
theorem dX3_numberOfGrower_111 : decode cX3_numberOfGrower 111 = .ok (.bipush (-2), 2) := by decide +kernel
theorem dX3_numberOfGrower_113 : decode cX3_numberOfGrower 113 = .ok (.ireturn, 1) := by decide +kernel
theorem dX3_numberOfAll_0 : decode cX3_numberOfAll 0 = .ok (.iload_n 1, 1) := by decide +kernel
theorem dX3_numberOfAll_1 : decode cX3_numberOfAll 1 = .ok (.bipush 11, 2) := by decide +kernel
theorem dX3_numberOfAll_3 : decode cX3_numberOfAll 3 = .ok (.bipush 17, 2) := by decide +kernel
theorem dX3_numberOfAll_5 : decode cX3_numberOfAll 5 = .ok (.invokestatic 73, 3) := by decide +kernel
theorem dX3_numberOfAll_8 : decode cX3_numberOfAll 8 = .ok (.ifCond .eq 13, 3) := by decide +kernel
theorem dX3_numberOfAll_11 : decode cX3_numberOfAll 11 = .ok (.aload_n 0, 1) := by decide +kernel
theorem dX3_numberOfAll_12 : decode cX3_numberOfAll 12 = .ok (.getfield 9, 3) := by decide +kernel
theorem dX3_numberOfAll_15 : decode cX3_numberOfAll 15 = .ok (.iload_n 1, 1) := by decide +kernel
theorem dX3_numberOfAll_16 : decode cX3_numberOfAll 16 = .ok (.bipush 11, 2) := by decide +kernel
theorem dX3_numberOfAll_18 : decode cX3_numberOfAll 18 = .ok (.isub, 1) := by decide +kernel
theorem dX3_numberOfAll_19 : decode cX3_numberOfAll 19 = .ok (.iaload, 1) := by decide +kernel
theorem dX3_numberOfAll_20 : decode cX3_numberOfAll 20 = .ok (.ireturn, 1) := by decide +kernel
theorem dX3_numberOfAll_21 : decode cX3_numberOfAll 21 = .ok (.iload_n 1, 1) := by decide +kernel
theorem dX3_numberOfAll_22 : decode cX3_numberOfAll 22 = .ok (.tableswitch 134 0 10 #[58, 63, 71, 79, 87, 95, 103, 108, 116, 124, 129], 58) := by decide +kernel
theorem dX3_numberOfAll_80 : decode cX3_numberOfAll 80 = .ok (.aload_n 0, 1) := by decide +kernel
theorem dX3_numberOfAll_81 : decode cX3_numberOfAll 81 = .ok (.getfield 60, 3) := by decide +kernel
theorem dX3_numberOfAll_84 : decode cX3_numberOfAll 84 = .ok (.ireturn, 1) := by decide +kernel
theorem dX3_numberOfAll_85 : decode cX3_numberOfAll 85 = .ok (.aload_n 0, 1) := by decide +kernel
theorem dX3_numberOfAll_86 : decode cX3_numberOfAll 86 = .ok (.getfield 25, 3) := by decide +kernel
theorem dX3_numberOfAll_89 : decode cX3_numberOfAll 89 = .ok (.getfield 110, 3) := by decide +kernel
theorem dX3_numberOfAll_92 : decode cX3_numberOfAll 92 = .ok (.ireturn, 1) := by decide +kernel
theorem dX3_numberOfAll_93 : decode cX3_numberOfAll 93 = .ok (.aload_n 0, 1) := by decide +kernel
theorem dX3_numberOfAll_94 : decode cX3_numberOfAll 94 = .ok (.getfield 32, 3) := by decide +kernel
theorem dX3_numberOfAll_97 : decode cX3_numberOfAll 97 = .ok (.getfield 206, 3) := by decide +kernel
theorem dX3_numberOfAll_100 : decode cX3_numberOfAll 100 = .ok (.ireturn, 1) := by decide +kernel
theorem dX3_numberOfAll_101 : decode cX3_numberOfAll 101 = .ok (.aload_n 0, 1) := by decide +kernel
theorem dX3_numberOfAll_102 : decode cX3_numberOfAll 102 = .ok (.getfield 39, 3) := by decide +kernel
theorem dX3_numberOfAll_105 : decode cX3_numberOfAll 105 = .ok (.getfield 151, 3) := by decide +kernel
theorem dX3_numberOfAll_108 : decode cX3_numberOfAll 108 = .ok (.ireturn, 1) := by decide +kernel
theorem dX3_numberOfAll_109 : decode cX3_numberOfAll 109 = .ok (.aload_n 0, 1) := by decide +kernel
theorem dX3_numberOfAll_110 : decode cX3_numberOfAll 110 = .ok (.getfield 39, 3) := by decide +kernel
theorem dX3_numberOfAll_113 : decode cX3_numberOfAll 113 = .ok (.getfield 148, 3) := by decide +kernel
theorem dX3_numberOfAll_116 : decode cX3_numberOfAll 116 = .ok (.ireturn, 1) := by decide +kernel
theorem dX3_numberOfAll_117 : decode cX3_numberOfAll 117 = .ok (.aload_n 0, 1) := by decide +kernel
theorem dX3_numberOfAll_118 : decode cX3_numberOfAll 118 = .ok (.getfield 18, 3) := by decide +kernel
theorem dX3_numberOfAll_121 : decode cX3_numberOfAll 121 = .ok (.invokevirtual 207, 3) := by decide +kernel
theorem dX3_numberOfAll_124 : decode cX3_numberOfAll 124 = .ok (.ireturn, 1) := by decide +kernel
theorem dX3_numberOfAll_125 : decode cX3_numberOfAll 125 = .ok (.aload_n 0, 1) := by decide +kernel
theorem dX3_numberOfAll_126 : decode cX3_numberOfAll 126 = .ok (.getfield 64, 3) := by decide +kernel
theorem dX3_numberOfAll_129 : decode cX3_numberOfAll 129 = .ok (.ireturn, 1) := by decide +kernel
theorem dX3_numberOfAll_130 : decode cX3_numberOfAll 130 = .ok (.aload_n 0, 1) := by decide +kernel
theorem dX3_numberOfAll_131 : decode cX3_numberOfAll 131 = .ok (.getfield 18, 3) := by decide +kernel
theorem dX3_numberOfAll_134 : decode cX3_numberOfAll 134 = .ok (.invokevirtual 210, 3) := by decide +kernel
theorem dX3_numberOfAll_137 : decode cX3_numberOfAll 137 = .ok (.ireturn, 1) := by decide +kernel
theorem dX3_numberOfAll_138 : decode cX3_numberOfAll 138 = .ok (.aload_n 0, 1) := by decide +kernel
theorem dX3_numberOfAll_139 : decode cX3_numberOfAll 139 = .ok (.getfield 18, 3) := by decide +kernel
theorem dX3_numberOfAll_142 : decode cX3_numberOfAll 142 = .ok (.invokevirtual 213, 3) := by decide +kernel
theorem dX3_numberOfAll_145 : decode cX3_numberOfAll 145 = .ok (.ireturn, 1) := by decide +kernel
theorem dX3_numberOfAll_146 : decode cX3_numberOfAll 146 = .ok (.aload_n 0, 1) := by decide +kernel
theorem dX3_numberOfAll_147 : decode cX3_numberOfAll 147 = .ok (.getfield 67, 3) := by decide +kernel
theorem dX3_numberOfAll_150 : decode cX3_numberOfAll 150 = .ok (.ireturn, 1) := by decide +kernel
theorem dX3_numberOfAll_151 : decode cX3_numberOfAll 151 = .ok (.aload_n 0, 1) := by decide +kernel
theorem dX3_numberOfAll_152 : decode cX3_numberOfAll 152 = .ok (.getfield 70, 3) := by decide +kernel
theorem dX3_numberOfAll_155 : decode cX3_numberOfAll 155 = .ok (.ireturn, 1) := by decide +kernel
theorem dX3_numberOfAll_156 : decode cX3_numberOfAll 156 = .ok (.bipush (-2), 2) := by decide +kernel
theorem dX3_numberOfAll_158 : decode cX3_numberOfAll 158 = .ok (.ireturn, 1) := by decide +kernel
theorem dX4_init_0 : decode cX4_init 0 = .ok (.aload_n 0, 1) := by decide +kernel
theorem dX4_init_1 : decode cX4_init 1 = .ok (.invokespecial 3, 3) := by decide +kernel
theorem dX4_init_4 : decode cX4_init 4 = .ok (.aload_n 0, 1) := by decide +kernel
theorem dX4_init_5 : decode cX4_init 5 = .ok (.bipush 80, 2) := by decide +kernel
theorem dX4_init_7 : decode cX4_init 7 = .ok (.newarray .char, 2) := by decide +kernel
theorem dX4_init_9 : decode cX4_init 9 = .ok (.putfield 9, 3) := by decide +kernel
theorem dX4_init_12 : decode cX4_init 12 = .ok (.aload_n 0, 1) := by decide +kernel
theorem dX4_init_13 : decode cX4_init 13 = .ok (.iconst 4, 1) := by decide +kernel
theorem dX4_init_14 : decode cX4_init 14 = .ok (.newarray .int, 2) := by decide +kernel
theorem dX4_init_16 : decode cX4_init 16 = .ok (.putfield 15, 3) := by decide +kernel
theorem dX4_init_19 : decode cX4_init 19 = .ok (.return_, 1) := by decide +kernel
theorem dX4_append_0 : decode cX4_append 0 = .ok (.lload_n 1, 1) := by decide +kernel
theorem dX4_append_1 : decode cX4_append 1 = .ok (.invokestatic 19, 3) := by decide +kernel
theorem dX4_append_4 : decode cX4_append 4 = .ok (.istore_n 3, 1) := by decide +kernel
theorem dX4_append_5 : decode cX4_append 5 = .ok (.iload_n 3, 1) := by decide +kernel
theorem dX4_append_6 : decode cX4_append 6 = .ok (.ifCond .ne 6, 3) := by decide +kernel
theorem dX4_append_9 : decode cX4_append 9 = .ok (.bipush (-2), 2) := by decide +kernel
theorem dX4_append_11 : decode cX4_append 11 = .ok (.ireturn, 1) := by decide +kernel
theorem dX4_append_12 : decode cX4_append 12 = .ok (.aload_n 0, 1) := by decide +kernel
theorem dX4_append_13 : decode cX4_append 13 = .ok (.getfield 23, 3) := by decide +kernel
theorem dX4_append_16 : decode cX4_append 16 = .ok (.iload_n 3, 1) := by decide +kernel
theorem dX4_append_17 : decode cX4_append 17 = .ok (.iadd, 1) := by decide +kernel
theorem dX4_append_18 : decode cX4_append 18 = .ok (.bipush 80, 2) := by decide +kernel
theorem dX4_append_20 : decode cX4_append 20 = .ok (.if_icmp .le 6, 3) := by decide +kernel
theorem dX4_append_23 : decode cX4_append 23 = .ok (.bipush (-4), 2) := by decide +kernel
theorem dX4_append_25 : decode cX4_append 25 = .ok (.ireturn, 1) := by decide +kernel
theorem dX4_append_26 : decode cX4_append 26 = .ok (.iconst 0, 1) := by decide +kernel
theorem dX4_append_27 : decode cX4_append 27 = .ok (.istore 4, 2) := by decide +kernel
theorem dX4_append_29 : decode cX4_append 29 = .ok (.iload 4, 2) := by decide +kernel
theorem dX4_append_31 : decode cX4_append 31 = .ok (.iload_n 3, 1) := by decide +kernel
theorem dX4_append_32 : decode cX4_append 32 = .ok (.if_icmp .ge 38, 3) := by decide +kernel
theorem dX4_append_35 : decode cX4_append 35 = .ok (.aload_n 0, 1) := by decide +kernel
theorem dX4_append_36 : decode cX4_append 36 = .ok (.getfield 9, 3) := by decide +kernel
theorem dX4_append_39 : decode cX4_append 39 = .ok (.aload_n 0, 1) := by decide +kernel
theorem dX4_append_40 : decode cX4_append 40 = .ok (.getfield 23, 3) := by decide +kernel
theorem dX4_append_43 : decode cX4_append 43 = .ok (.iload_n 3, 1) := by decide +kernel
theorem dX4_append_44 : decode cX4_append 44 = .ok (.iadd, 1) := by decide +kernel
theorem dX4_append_45 : decode cX4_append 45 = .ok (.iconst 1, 1) := by decide +kernel
theorem dX4_append_46 : decode cX4_append 46 = .ok (.isub, 1) := by decide +kernel
theorem dX4_append_47 : decode cX4_append 47 = .ok (.iload 4, 2) := by decide +kernel
theorem dX4_append_49 : decode cX4_append 49 = .ok (.isub, 1) := by decide +kernel
theorem dX4_append_50 : decode cX4_append 50 = .ok (.lload_n 1, 1) := by decide +kernel
theorem dX4_append_51 : decode cX4_append 51 = .ok (.bipush 8, 2) := by decide +kernel
theorem dX4_append_53 : decode cX4_append 53 = .ok (.iload 4, 2) := by decide +kernel
theorem dX4_append_55 : decode cX4_append 55 = .ok (.imul, 1) := by decide +kernel
theorem dX4_append_56 : decode cX4_append 56 = .ok (.lushr, 1) := by decide +kernel
theorem dX4_append_57 : decode cX4_append 57 = .ok (.ldc2_w 27, 3) := by decide +kernel
theorem dX4_append_60 : decode cX4_append 60 = .ok (.land, 1) := by decide +kernel
theorem dX4_append_61 : decode cX4_append 61 = .ok (.l2i, 1) := by decide +kernel
theorem dX4_append_62 : decode cX4_append 62 = .ok (.i2c, 1) := by decide +kernel
theorem dX4_append_63 : decode cX4_append 63 = .ok (.castore, 1) := by decide +kernel
theorem dX4_append_64 : decode cX4_append 64 = .ok (.iinc 4 1, 3) := by decide +kernel
theorem dX4_append_67 : decode cX4_append 67 = .ok (.goto (-38), 3) := by decide +kernel
theorem dX4_append_70 : decode cX4_append 70 = .ok (.aload_n 0, 1) := by decide +kernel
theorem dX4_append_71 : decode cX4_append 71 = .ok (.dup, 1) := by decide +kernel
theorem dX4_append_72 : decode cX4_append 72 = .ok (.getfield 23, 3) := by decide +kernel
theorem dX4_append_75 : decode cX4_append 75 = .ok (.iload_n 3, 1) := by decide +kernel
theorem dX4_append_76 : decode cX4_append 76 = .ok (.iadd, 1) := by decide +kernel
theorem dX4_append_77 : decode cX4_append 77 = .ok (.putfield 23, 3) := by decide +kernel
theorem dX4_append_80 : decode cX4_append 80 = .ok (.aload_n 0, 1) := by decide +kernel
theorem dX4_append_81 : decode cX4_append 81 = .ok (.getfield 23, 3) := by decide +kernel
theorem dX4_append_84 : decode cX4_append 84 = .ok (.ireturn, 1) := by decide +kernel
theorem dX4_countSigns_0 : decode cX4_countSigns 0 = .ok (.lload_n 0, 1) := by decide +kernel
theorem dX4_countSigns_1 : decode cX4_countSigns 1 = .ok (.lstore_n 2, 1) := by decide +kernel
theorem dX4_countSigns_2 : decode cX4_countSigns 2 = .ok (.iconst 0, 1) := by decide +kernel
theorem dX4_countSigns_3 : decode cX4_countSigns 3 = .ok (.istore 4, 2) := by decide +kernel
theorem dX4_countSigns_5 : decode cX4_countSigns 5 = .ok (.iload 4, 2) := by decide +kernel
theorem dX4_countSigns_7 : decode cX4_countSigns 7 = .ok (.bipush 8, 2) := by decide +kernel
theorem dX4_countSigns_9 : decode cX4_countSigns 9 = .ok (.if_icmp .ge 42, 3) := by decide +kernel
theorem dX4_countSigns_12 : decode cX4_countSigns 12 = .ok (.lload_n 2, 1) := by decide +kernel
theorem dX4_countSigns_13 : decode cX4_countSigns 13 = .ok (.ldc2_w 27, 3) := by decide +kernel
theorem dX4_countSigns_16 : decode cX4_countSigns 16 = .ok (.land, 1) := by decide +kernel
theorem dX4_countSigns_17 : decode cX4_countSigns 17 = .ok (.lconst 0, 1) := by decide +kernel
theorem dX4_countSigns_18 : decode cX4_countSigns 18 = .ok (.lcmp, 1) := by decide +kernel
theorem dX4_countSigns_19 : decode cX4_countSigns 19 = .ok (.ifCond .eq 32, 3) := by decide +kernel
theorem dX4_countSigns_22 : decode cX4_countSigns 22 = .ok (.lload_n 2, 1) := by decide +kernel
theorem dX4_countSigns_23 : decode cX4_countSigns 23 = .ok (.ldc2_w 27, 3) := by decide +kernel
theorem dX4_countSigns_26 : decode cX4_countSigns 26 = .ok (.land, 1) := by decide +kernel
theorem dX4_countSigns_27 : decode cX4_countSigns 27 = .ok (.l2i, 1) := by decide +kernel
theorem dX4_countSigns_28 : decode cX4_countSigns 28 = .ok (.bipush 33, 2) := by decide +kernel
theorem dX4_countSigns_30 : decode cX4_countSigns 30 = .ok (.bipush 126, 2) := by decide +kernel
theorem dX4_countSigns_32 : decode cX4_countSigns 32 = .ok (.invokestatic 29, 3) := by decide +kernel
theorem dX4_countSigns_35 : decode cX4_countSigns 35 = .ok (.ifCond .ne 5, 3) := by decide +kernel
theorem dX4_countSigns_38 : decode cX4_countSigns 38 = .ok (.iconst 0, 1) := by decide +kernel
theorem dX4_countSigns_39 : decode cX4_countSigns 39 = .ok (.ireturn, 1) := by decide +kernel
theorem dX4_countSigns_40 : decode cX4_countSigns 40 = .ok (.lload_n 2, 1) := by decide +kernel
theorem dX4_countSigns_41 : decode cX4_countSigns 41 = .ok (.bipush 8, 2) := by decide +kernel
theorem dX4_countSigns_43 : decode cX4_countSigns 43 = .ok (.lushr, 1) := by decide +kernel
theorem dX4_countSigns_44 : decode cX4_countSigns 44 = .ok (.lstore_n 2, 1) := by decide +kernel
theorem dX4_countSigns_45 : decode cX4_countSigns 45 = .ok (.iinc 4 1, 3) := by decide +kernel
theorem dX4_countSigns_48 : decode cX4_countSigns 48 = .ok (.goto (-43), 3) := by decide +kernel
theorem dX4_countSigns_51 : decode cX4_countSigns 51 = .ok (.lload_n 2, 1) := by decide +kernel
theorem dX4_countSigns_52 : decode cX4_countSigns 52 = .ok (.lconst 0, 1) := by decide +kernel
theorem dX4_countSigns_53 : decode cX4_countSigns 53 = .ok (.lcmp, 1) := by decide +kernel
theorem dX4_countSigns_54 : decode cX4_countSigns 54 = .ok (.ifCond .ne 8, 3) := by decide +kernel
theorem dX4_countSigns_57 : decode cX4_countSigns 57 = .ok (.iload 4, 2) := by decide +kernel
theorem dX4_countSigns_59 : decode cX4_countSigns 59 = .ok (.goto 4, 3) := by decide +kernel
theorem dX4_countSigns_62 : decode cX4_countSigns 62 = .ok (.iconst 0, 1) := by decide +kernel
theorem dX4_countSigns_63 : decode cX4_countSigns 63 = .ok (.ireturn, 1) := by decide +kernel
theorem dX4_empty_0 : decode cX4_empty 0 = .ok (.aload_n 0, 1) := by decide +kernel
theorem dX4_empty_1 : decode cX4_empty 1 = .ok (.getfield 23, 3) := by decide +kernel
theorem dX4_empty_4 : decode cX4_empty 4 = .ok (.istore_n 1, 1) := by decide +kernel
theorem dX4_empty_5 : decode cX4_empty 5 = .ok (.aload_n 0, 1) := by decide +kernel
theorem dX4_empty_6 : decode cX4_empty 6 = .ok (.iconst 0, 1) := by decide +kernel
theorem dX4_empty_7 : decode cX4_empty 7 = .ok (.putfield 23, 3) := by decide +kernel
theorem dX4_empty_10 : decode cX4_empty 10 = .ok (.iload_n 1, 1) := by decide +kernel
theorem dX4_empty_11 : decode cX4_empty 11 = .ok (.ireturn, 1) := by decide +kernel
theorem dX4_findFault_0 : decode cX4_findFault 0 = .ok (.aload_n 0, 1) := by decide +kernel
theorem dX4_findFault_1 : decode cX4_findFault 1 = .ok (.invokevirtual 33, 3) := by decide +kernel
theorem dX4_findFault_4 : decode cX4_findFault 4 = .ok (.iconst 0, 1) := by decide +kernel
theorem dX4_findFault_5 : decode cX4_findFault 5 = .ok (.istore_n 1, 1) := by decide +kernel
theorem dX4_findFault_6 : decode cX4_findFault 6 = .ok (.iload_n 1, 1) := by decide +kernel
theorem dX4_findFault_7 : decode cX4_findFault 7 = .ok (.bipush 80, 2) := by decide +kernel
theorem dX4_findFault_9 : decode cX4_findFault 9 = .ok (.if_icmp .ge 49, 3) := by decide +kernel
theorem dX4_findFault_12 : decode cX4_findFault 12 = .ok (.aload_n 0, 1) := by decide +kernel
theorem dX4_findFault_13 : decode cX4_findFault 13 = .ok (.invokevirtual 36, 3) := by decide +kernel
theorem dX4_findFault_16 : decode cX4_findFault 16 = .ok (.ifCond .ne 8, 3) := by decide +kernel
theorem dX4_findFault_19 : decode cX4_findFault 19 = .ok (.aload_n 0, 1) := by decide +kernel
theorem dX4_findFault_20 : decode cX4_findFault 20 = .ok (.getfield 40, 3) := by decide +kernel
theorem dX4_findFault_23 : decode cX4_findFault 23 = .ok (.ireturn, 1) := by decide +kernel
theorem dX4_findFault_24 : decode cX4_findFault 24 = .ok (.aload_n 0, 1) := by decide +kernel
theorem dX4_findFault_25 : decode cX4_findFault 25 = .ok (.getfield 40, 3) := by decide +kernel
theorem dX4_findFault_28 : decode cX4_findFault 28 = .ok (.aload_n 0, 1) := by decide +kernel
theorem dX4_findFault_29 : decode cX4_findFault 29 = .ok (.getfield 23, 3) := by decide +kernel
theorem dX4_findFault_32 : decode cX4_findFault 32 = .ok (.if_icmp .ne 6, 3) := by decide +kernel
theorem dX4_findFault_35 : decode cX4_findFault 35 = .ok (.bipush (-6), 2) := by decide +kernel
theorem dX4_findFault_37 : decode cX4_findFault 37 = .ok (.ireturn, 1) := by decide +kernel
theorem dX4_findFault_38 : decode cX4_findFault 38 = .ok (.aload_n 0, 1) := by decide +kernel
theorem dX4_findFault_39 : decode cX4_findFault 39 = .ok (.bipush 59, 2) := by decide +kernel
theorem dX4_findFault_41 : decode cX4_findFault 41 = .ok (.invokevirtual 43, 3) := by decide +kernel
theorem dX4_findFault_44 : decode cX4_findFault 44 = .ok (.ifCond .ne 8, 3) := by decide +kernel
theorem dX4_findFault_47 : decode cX4_findFault 47 = .ok (.aload_n 0, 1) := by decide +kernel
theorem dX4_findFault_48 : decode cX4_findFault 48 = .ok (.getfield 40, 3) := by decide +kernel
theorem dX4_findFault_51 : decode cX4_findFault 51 = .ok (.ireturn, 1) := by decide +kernel
theorem dX4_findFault_52 : decode cX4_findFault 52 = .ok (.iinc 1 1, 3) := by decide +kernel
theorem dX4_findFault_55 : decode cX4_findFault 55 = .ok (.goto (-49), 3) := by decide +kernel
theorem dX4_findFault_58 : decode cX4_findFault 58 = .ok (.aload_n 0, 1) := by decide +kernel
theorem dX4_findFault_59 : decode cX4_findFault 59 = .ok (.getfield 40, 3) := by decide +kernel
theorem dX4_findFault_62 : decode cX4_findFault 62 = .ok (.ireturn, 1) := by decide +kernel
theorem dX4_startReading_0 : decode cX4_startReading 0 = .ok (.aload_n 0, 1) := by decide +kernel
theorem dX4_startReading_1 : decode cX4_startReading 1 = .ok (.iconst 0, 1) := by decide +kernel
theorem dX4_startReading_2 : decode cX4_startReading 2 = .ok (.putfield 40, 3) := by decide +kernel
theorem dX4_startReading_5 : decode cX4_startReading 5 = .ok (.return_, 1) := by decide +kernel
theorem dX4_readOrder_0 : decode cX4_readOrder 0 = .ok (.aload_n 0, 1) := by decide +kernel
theorem dX4_readOrder_1 : decode cX4_readOrder 1 = .ok (.getfield 40, 3) := by decide +kernel
theorem dX4_readOrder_4 : decode cX4_readOrder 4 = .ok (.aload_n 0, 1) := by decide +kernel
theorem dX4_readOrder_5 : decode cX4_readOrder 5 = .ok (.getfield 23, 3) := by decide +kernel
theorem dX4_readOrder_8 : decode cX4_readOrder 8 = .ok (.if_icmp .lt 5, 3) := by decide +kernel
theorem dX4_readOrder_11 : decode cX4_readOrder 11 = .ok (.iconst 0, 1) := by decide +kernel
theorem dX4_readOrder_12 : decode cX4_readOrder 12 = .ok (.ireturn, 1) := by decide +kernel
theorem dX4_readOrder_13 : decode cX4_readOrder 13 = .ok (.aload_n 0, 1) := by decide +kernel
theorem dX4_readOrder_14 : decode cX4_readOrder 14 = .ok (.aload_n 0, 1) := by decide +kernel
theorem dX4_readOrder_15 : decode cX4_readOrder 15 = .ok (.getfield 9, 3) := by decide +kernel
theorem dX4_readOrder_18 : decode cX4_readOrder 18 = .ok (.aload_n 0, 1) := by decide +kernel
theorem dX4_readOrder_19 : decode cX4_readOrder 19 = .ok (.getfield 40, 3) := by decide +kernel
theorem dX4_readOrder_22 : decode cX4_readOrder 22 = .ok (.caload, 1) := by decide +kernel
theorem dX4_readOrder_23 : decode cX4_readOrder 23 = .ok (.putfield 47, 3) := by decide +kernel
theorem dX4_readOrder_26 : decode cX4_readOrder 26 = .ok (.aload_n 0, 1) := by decide +kernel
theorem dX4_readOrder_27 : decode cX4_readOrder 27 = .ok (.iconst 0, 1) := by decide +kernel
theorem dX4_readOrder_28 : decode cX4_readOrder 28 = .ok (.putfield 51, 3) := by decide +kernel
theorem dX4_readOrder_31 : decode cX4_readOrder 31 = .ok (.aload_n 0, 1) := by decide +kernel
theorem dX4_readOrder_32 : decode cX4_readOrder 32 = .ok (.getfield 47, 3) := by decide +kernel
theorem dX4_readOrder_35 : decode cX4_readOrder 35 = .ok (.invokestatic 54, 3) := by decide +kernel
theorem dX4_readOrder_38 : decode cX4_readOrder 38 = .ok (.astore_n 1, 1) := by decide +kernel
theorem dX4_readOrder_39 : decode cX4_readOrder 39 = .ok (.aload_n 1, 1) := by decide +kernel
theorem dX4_readOrder_40 : decode cX4_readOrder 40 = .ok (.invokevirtual 58, 3) := by decide +kernel
theorem dX4_readOrder_43 : decode cX4_readOrder 43 = .ok (.ifCond .eq 5, 3) := by decide +kernel
theorem dX4_readOrder_46 : decode cX4_readOrder 46 = .ok (.iconst 0, 1) := by decide +kernel
theorem dX4_readOrder_47 : decode cX4_readOrder 47 = .ok (.ireturn, 1) := by decide +kernel
theorem dX4_readOrder_48 : decode cX4_readOrder 48 = .ok (.iconst 0, 1) := by decide +kernel
theorem dX4_readOrder_49 : decode cX4_readOrder 49 = .ok (.istore_n 2, 1) := by decide +kernel
theorem dX4_readOrder_50 : decode cX4_readOrder 50 = .ok (.iload_n 2, 1) := by decide +kernel
theorem dX4_readOrder_51 : decode cX4_readOrder 51 = .ok (.aload_n 1, 1) := by decide +kernel
theorem dX4_readOrder_52 : decode cX4_readOrder 52 = .ok (.invokevirtual 63, 3) := by decide +kernel
theorem dX4_readOrder_55 : decode cX4_readOrder 55 = .ok (.if_icmp .ge 23, 3) := by decide +kernel
theorem dX4_readOrder_58 : decode cX4_readOrder 58 = .ok (.aload_n 0, 1) := by decide +kernel
theorem dX4_readOrder_59 : decode cX4_readOrder 59 = .ok (.aload_n 1, 1) := by decide +kernel
theorem dX4_readOrder_60 : decode cX4_readOrder 60 = .ok (.iload_n 2, 1) := by decide +kernel
theorem dX4_readOrder_61 : decode cX4_readOrder 61 = .ok (.invokevirtual 66, 3) := by decide +kernel
theorem dX4_readOrder_64 : decode cX4_readOrder 64 = .ok (.invokevirtual 70, 3) := by decide +kernel
theorem dX4_readOrder_67 : decode cX4_readOrder 67 = .ok (.ifCond .ne 5, 3) := by decide +kernel
theorem dX4_readOrder_70 : decode cX4_readOrder 70 = .ok (.iconst 0, 1) := by decide +kernel
theorem dX4_readOrder_71 : decode cX4_readOrder 71 = .ok (.ireturn, 1) := by decide +kernel
theorem dX4_readOrder_72 : decode cX4_readOrder 72 = .ok (.iinc 2 1, 3) := by decide +kernel
theorem dX4_readOrder_75 : decode cX4_readOrder 75 = .ok (.goto (-25), 3) := by decide +kernel
theorem dX4_readOrder_78 : decode cX4_readOrder 78 = .ok (.iconst 1, 1) := by decide +kernel
theorem dX4_readOrder_79 : decode cX4_readOrder 79 = .ok (.ireturn, 1) := by decide +kernel
theorem dX4_formOf_0 : decode cX4_formOf 0 = .ok (.iload_n 0, 1) := by decide +kernel
theorem dX4_formOf_1 : decode cX4_formOf 1 = .ok (.lookupswitch 66 #[(100, 63), (102, 51), (108, 57), (113, 54), (115, 60)], 51) := by decide +kernel
theorem dX4_formOf_52 : decode cX4_formOf 52 = .ok (.ldc 73, 2) := by decide +kernel
theorem dX4_formOf_54 : decode cX4_formOf 54 = .ok (.areturn, 1) := by decide +kernel
theorem dX4_formOf_55 : decode cX4_formOf 55 = .ok (.ldc 75, 2) := by decide +kernel
theorem dX4_formOf_57 : decode cX4_formOf 57 = .ok (.areturn, 1) := by decide +kernel
theorem dX4_formOf_58 : decode cX4_formOf 58 = .ok (.ldc 77, 2) := by decide +kernel
theorem dX4_formOf_60 : decode cX4_formOf 60 = .ok (.areturn, 1) := by decide +kernel
theorem dX4_formOf_61 : decode cX4_formOf 61 = .ok (.ldc 79, 2) := by decide +kernel
theorem dX4_formOf_63 : decode cX4_formOf 63 = .ok (.areturn, 1) := by decide +kernel
theorem dX4_formOf_64 : decode cX4_formOf 64 = .ok (.ldc 81, 2) := by decide +kernel
theorem dX4_formOf_66 : decode cX4_formOf 66 = .ok (.areturn, 1) := by decide +kernel
theorem dX4_formOf_67 : decode cX4_formOf 67 = .ok (.ldc 83, 2) := by decide +kernel
theorem dX4_formOf_69 : decode cX4_formOf 69 = .ok (.areturn, 1) := by decide +kernel
theorem dX4_readPart_0 : decode cX4_readPart 0 = .ok (.iload_n 1, 1) := by decide +kernel
theorem dX4_readPart_1 : decode cX4_readPart 1 = .ok (.lookupswitch 37 #[(68, 27), (78, 32)], 27) := by decide +kernel
theorem dX4_readPart_28 : decode cX4_readPart 28 = .ok (.aload_n 0, 1) := by decide +kernel
theorem dX4_readPart_29 : decode cX4_readPart 29 = .ok (.invokevirtual 85, 3) := by decide +kernel
theorem dX4_readPart_32 : decode cX4_readPart 32 = .ok (.ireturn, 1) := by decide +kernel
theorem dX4_readPart_33 : decode cX4_readPart 33 = .ok (.aload_n 0, 1) := by decide +kernel
theorem dX4_readPart_34 : decode cX4_readPart 34 = .ok (.invokevirtual 88, 3) := by decide +kernel
theorem dX4_readPart_37 : decode cX4_readPart 37 = .ok (.ireturn, 1) := by decide +kernel
theorem dX4_readPart_38 : decode cX4_readPart 38 = .ok (.aload_n 0, 1) := by decide +kernel
theorem dX4_readPart_39 : decode cX4_readPart 39 = .ok (.iload_n 1, 1) := by decide +kernel
theorem dX4_readPart_40 : decode cX4_readPart 40 = .ok (.invokevirtual 43, 3) := by decide +kernel
theorem dX4_readPart_43 : decode cX4_readPart 43 = .ok (.ireturn, 1) := by decide +kernel
theorem dX4_readSign_0 : decode cX4_readSign 0 = .ok (.aload_n 0, 1) := by decide +kernel
theorem dX4_readSign_1 : decode cX4_readSign 1 = .ok (.getfield 40, 3) := by decide +kernel
theorem dX4_readSign_4 : decode cX4_readSign 4 = .ok (.aload_n 0, 1) := by decide +kernel
theorem dX4_readSign_5 : decode cX4_readSign 5 = .ok (.getfield 23, 3) := by decide +kernel
theorem dX4_readSign_8 : decode cX4_readSign 8 = .ok (.if_icmp .ge 16, 3) := by decide +kernel
theorem dX4_readSign_11 : decode cX4_readSign 11 = .ok (.aload_n 0, 1) := by decide +kernel
theorem dX4_readSign_12 : decode cX4_readSign 12 = .ok (.getfield 9, 3) := by decide +kernel
theorem dX4_readSign_15 : decode cX4_readSign 15 = .ok (.aload_n 0, 1) := by decide +kernel
theorem dX4_readSign_16 : decode cX4_readSign 16 = .ok (.getfield 40, 3) := by decide +kernel
theorem dX4_readSign_19 : decode cX4_readSign 19 = .ok (.caload, 1) := by decide +kernel
theorem dX4_readSign_20 : decode cX4_readSign 20 = .ok (.iload_n 1, 1) := by decide +kernel
theorem dX4_readSign_21 : decode cX4_readSign 21 = .ok (.if_icmp .eq 5, 3) := by decide +kernel
theorem dX4_readSign_24 : decode cX4_readSign 24 = .ok (.iconst 0, 1) := by decide +kernel
theorem dX4_readSign_25 : decode cX4_readSign 25 = .ok (.ireturn, 1) := by decide +kernel
theorem dX4_readSign_26 : decode cX4_readSign 26 = .ok (.aload_n 0, 1) := by decide +kernel
theorem dX4_readSign_27 : decode cX4_readSign 27 = .ok (.dup, 1) := by decide +kernel
theorem dX4_readSign_28 : decode cX4_readSign 28 = .ok (.getfield 40, 3) := by decide +kernel
theorem dX4_readSign_31 : decode cX4_readSign 31 = .ok (.iconst 1, 1) := by decide +kernel
theorem dX4_readSign_32 : decode cX4_readSign 32 = .ok (.iadd, 1) := by decide +kernel
theorem dX4_readSign_33 : decode cX4_readSign 33 = .ok (.putfield 40, 3) := by decide +kernel
theorem dX4_readSign_36 : decode cX4_readSign 36 = .ok (.iconst 1, 1) := by decide +kernel
theorem dX4_readSign_37 : decode cX4_readSign 37 = .ok (.ireturn, 1) := by decide +kernel
theorem dX4_readDigit_0 : decode cX4_readDigit 0 = .ok (.aload_n 0, 1) := by decide +kernel
theorem dX4_readDigit_1 : decode cX4_readDigit 1 = .ok (.invokevirtual 91, 3) := by decide +kernel
theorem dX4_readDigit_4 : decode cX4_readDigit 4 = .ok (.ifCond .eq 17, 3) := by decide +kernel
theorem dX4_readDigit_7 : decode cX4_readDigit 7 = .ok (.aload_n 0, 1) := by decide +kernel
theorem dX4_readDigit_8 : decode cX4_readDigit 8 = .ok (.getfield 9, 3) := by decide +kernel
theorem dX4_readDigit_11 : decode cX4_readDigit 11 = .ok (.aload_n 0, 1) := by decide +kernel
theorem dX4_readDigit_12 : decode cX4_readDigit 12 = .ok (.getfield 40, 3) := by decide +kernel
theorem dX4_readDigit_15 : decode cX4_readDigit 15 = .ok (.caload, 1) := by decide +kernel
theorem dX4_readDigit_16 : decode cX4_readDigit 16 = .ok (.bipush 53, 2) := by decide +kernel
theorem dX4_readDigit_18 : decode cX4_readDigit 18 = .ok (.if_icmp .le 5, 3) := by decide +kernel
theorem dX4_readDigit_21 : decode cX4_readDigit 21 = .ok (.iconst 0, 1) := by decide +kernel
theorem dX4_readDigit_22 : decode cX4_readDigit 22 = .ok (.ireturn, 1) := by decide +kernel
theorem dX4_readDigit_23 : decode cX4_readDigit 23 = .ok (.aload_n 0, 1) := by decide +kernel
theorem dX4_readDigit_24 : decode cX4_readDigit 24 = .ok (.aload_n 0, 1) := by decide +kernel
theorem dX4_readDigit_25 : decode cX4_readDigit 25 = .ok (.getfield 9, 3) := by decide +kernel
theorem dX4_readDigit_28 : decode cX4_readDigit 28 = .ok (.aload_n 0, 1) := by decide +kernel
theorem dX4_readDigit_29 : decode cX4_readDigit 29 = .ok (.getfield 40, 3) := by decide +kernel
theorem dX4_readDigit_32 : decode cX4_readDigit 32 = .ok (.caload, 1) := by decide +kernel
theorem dX4_readDigit_33 : decode cX4_readDigit 33 = .ok (.bipush 48, 2) := by decide +kernel
theorem dX4_readDigit_35 : decode cX4_readDigit 35 = .ok (.isub, 1) := by decide +kernel
theorem dX4_readDigit_36 : decode cX4_readDigit 36 = .ok (.invokevirtual 94, 3) := by decide +kernel
theorem dX4_readDigit_39 : decode cX4_readDigit 39 = .ok (.aload_n 0, 1) := by decide +kernel
theorem dX4_readDigit_40 : decode cX4_readDigit 40 = .ok (.dup, 1) := by decide +kernel
theorem dX4_readDigit_41 : decode cX4_readDigit 41 = .ok (.getfield 40, 3) := by decide +kernel
theorem dX4_readDigit_44 : decode cX4_readDigit 44 = .ok (.iconst 1, 1) := by decide +kernel
theorem dX4_readDigit_45 : decode cX4_readDigit 45 = .ok (.iadd, 1) := by decide +kernel
theorem dX4_readDigit_46 : decode cX4_readDigit 46 = .ok (.putfield 40, 3) := by decide +kernel
theorem dX4_readDigit_49 : decode cX4_readDigit 49 = .ok (.iconst 1, 1) := by decide +kernel
theorem dX4_readDigit_50 : decode cX4_readDigit 50 = .ok (.ireturn, 1) := by decide +kernel
theorem dX4_readNumber_0 : decode cX4_readNumber 0 = .ok (.aload_n 0, 1) := by decide +kernel
theorem dX4_readNumber_1 : decode cX4_readNumber 1 = .ok (.invokevirtual 91, 3) := by decide +kernel
theorem dX4_readNumber_4 : decode cX4_readNumber 4 = .ok (.ifCond .ne 5, 3) := by decide +kernel
theorem dX4_readNumber_7 : decode cX4_readNumber 7 = .ok (.iconst 0, 1) := by decide +kernel
theorem dX4_readNumber_8 : decode cX4_readNumber 8 = .ok (.ireturn, 1) := by decide +kernel
theorem dX4_readNumber_9 : decode cX4_readNumber 9 = .ok (.iconst 0, 1) := by decide +kernel
theorem dX4_readNumber_10 : decode cX4_readNumber 10 = .ok (.istore_n 1, 1) := by decide +kernel
theorem dX4_readNumber_11 : decode cX4_readNumber 11 = .ok (.iconst 0, 1) := by decide +kernel
theorem dX4_readNumber_12 : decode cX4_readNumber 12 = .ok (.istore_n 2, 1) := by decide +kernel
theorem dX4_readNumber_13 : decode cX4_readNumber 13 = .ok (.iload_n 2, 1) := by decide +kernel
theorem dX4_readNumber_14 : decode cX4_readNumber 14 = .ok (.iconst 4, 1) := by decide +kernel
theorem dX4_readNumber_15 : decode cX4_readNumber 15 = .ok (.if_icmp .ge 55, 3) := by decide +kernel
theorem dX4_readNumber_18 : decode cX4_readNumber 18 = .ok (.aload_n 0, 1) := by decide +kernel
theorem dX4_readNumber_19 : decode cX4_readNumber 19 = .ok (.invokevirtual 91, 3) := by decide +kernel
theorem dX4_readNumber_22 : decode cX4_readNumber 22 = .ok (.ifCond .eq 48, 3) := by decide +kernel
theorem dX4_readNumber_25 : decode cX4_readNumber 25 = .ok (.iload_n 2, 1) := by decide +kernel
theorem dX4_readNumber_26 : decode cX4_readNumber 26 = .ok (.ifCond .le 10, 3) := by decide +kernel
theorem dX4_readNumber_29 : decode cX4_readNumber 29 = .ok (.iload_n 1, 1) := by decide +kernel
theorem dX4_readNumber_30 : decode cX4_readNumber 30 = .ok (.ifCond .ne 6, 3) := by decide +kernel
theorem dX4_readNumber_33 : decode cX4_readNumber 33 = .ok (.goto 37, 3) := by decide +kernel
theorem dX4_readNumber_36 : decode cX4_readNumber 36 = .ok (.iload_n 1, 1) := by decide +kernel
theorem dX4_readNumber_37 : decode cX4_readNumber 37 = .ok (.bipush 10, 2) := by decide +kernel
theorem dX4_readNumber_39 : decode cX4_readNumber 39 = .ok (.imul, 1) := by decide +kernel
theorem dX4_readNumber_40 : decode cX4_readNumber 40 = .ok (.aload_n 0, 1) := by decide +kernel
theorem dX4_readNumber_41 : decode cX4_readNumber 41 = .ok (.getfield 9, 3) := by decide +kernel
theorem dX4_readNumber_44 : decode cX4_readNumber 44 = .ok (.aload_n 0, 1) := by decide +kernel
theorem dX4_readNumber_45 : decode cX4_readNumber 45 = .ok (.getfield 40, 3) := by decide +kernel
theorem dX4_readNumber_48 : decode cX4_readNumber 48 = .ok (.caload, 1) := by decide +kernel
theorem dX4_readNumber_49 : decode cX4_readNumber 49 = .ok (.iadd, 1) := by decide +kernel
theorem dX4_readNumber_50 : decode cX4_readNumber 50 = .ok (.bipush 48, 2) := by decide +kernel
theorem dX4_readNumber_52 : decode cX4_readNumber 52 = .ok (.isub, 1) := by decide +kernel
theorem dX4_readNumber_53 : decode cX4_readNumber 53 = .ok (.istore_n 1, 1) := by decide +kernel
theorem dX4_readNumber_54 : decode cX4_readNumber 54 = .ok (.aload_n 0, 1) := by decide +kernel
theorem dX4_readNumber_55 : decode cX4_readNumber 55 = .ok (.dup, 1) := by decide +kernel
theorem dX4_readNumber_56 : decode cX4_readNumber 56 = .ok (.getfield 40, 3) := by decide +kernel
theorem dX4_readNumber_59 : decode cX4_readNumber 59 = .ok (.iconst 1, 1) := by decide +kernel
theorem dX4_readNumber_60 : decode cX4_readNumber 60 = .ok (.iadd, 1) := by decide +kernel
theorem dX4_readNumber_61 : decode cX4_readNumber 61 = .ok (.putfield 40, 3) := by decide +kernel
theorem dX4_readNumber_64 : decode cX4_readNumber 64 = .ok (.iinc 2 1, 3) := by decide +kernel
theorem dX4_readNumber_67 : decode cX4_readNumber 67 = .ok (.goto (-54), 3) := by decide +kernel
theorem dX4_readNumber_70 : decode cX4_readNumber 70 = .ok (.aload_n 0, 1) := by decide +kernel
theorem dX4_readNumber_71 : decode cX4_readNumber 71 = .ok (.iload_n 1, 1) := by decide +kernel
theorem dX4_readNumber_72 : decode cX4_readNumber 72 = .ok (.invokevirtual 94, 3) := by decide +kernel
theorem dX4_readNumber_75 : decode cX4_readNumber 75 = .ok (.iconst 1, 1) := by decide +kernel
theorem dX4_readNumber_76 : decode cX4_readNumber 76 = .ok (.ireturn, 1) := by decide +kernel
theorem dX4_digitFollows_0 : decode cX4_digitFollows 0 = .ok (.aload_n 0, 1) := by decide +kernel
theorem dX4_digitFollows_1 : decode cX4_digitFollows 1 = .ok (.getfield 40, 3) := by decide +kernel
theorem dX4_digitFollows_4 : decode cX4_digitFollows 4 = .ok (.aload_n 0, 1) := by decide +kernel
theorem dX4_digitFollows_5 : decode cX4_digitFollows 5 = .ok (.getfield 23, 3) := by decide +kernel
theorem dX4_digitFollows_8 : decode cX4_digitFollows 8 = .ok (.if_icmp .ge 26, 3) := by decide +kernel
theorem dX4_digitFollows_11 : decode cX4_digitFollows 11 = .ok (.aload_n 0, 1) := by decide +kernel
theorem dX4_digitFollows_12 : decode cX4_digitFollows 12 = .ok (.getfield 9, 3) := by decide +kernel
theorem dX4_digitFollows_15 : decode cX4_digitFollows 15 = .ok (.aload_n 0, 1) := by decide +kernel
theorem dX4_digitFollows_16 : decode cX4_digitFollows 16 = .ok (.getfield 40, 3) := by decide +kernel
theorem dX4_digitFollows_19 : decode cX4_digitFollows 19 = .ok (.caload, 1) := by decide +kernel
theorem dX4_digitFollows_20 : decode cX4_digitFollows 20 = .ok (.bipush 48, 2) := by decide +kernel
theorem dX4_digitFollows_22 : decode cX4_digitFollows 22 = .ok (.bipush 57, 2) := by decide +kernel
theorem dX4_digitFollows_24 : decode cX4_digitFollows 24 = .ok (.invokestatic 29, 3) := by decide +kernel
theorem dX4_digitFollows_27 : decode cX4_digitFollows 27 = .ok (.ifCond .eq 7, 3) := by decide +kernel
theorem dX4_digitFollows_30 : decode cX4_digitFollows 30 = .ok (.iconst 1, 1) := by decide +kernel
theorem dX4_digitFollows_31 : decode cX4_digitFollows 31 = .ok (.goto 4, 3) := by decide +kernel
theorem dX4_digitFollows_34 : decode cX4_digitFollows 34 = .ok (.iconst 0, 1) := by decide +kernel
theorem dX4_digitFollows_35 : decode cX4_digitFollows 35 = .ok (.ireturn, 1) := by decide +kernel
theorem dX4_keepValue_0 : decode cX4_keepValue 0 = .ok (.aload_n 0, 1) := by decide +kernel
theorem dX4_keepValue_1 : decode cX4_keepValue 1 = .ok (.getfield 51, 3) := by decide +kernel
theorem dX4_keepValue_4 : decode cX4_keepValue 4 = .ok (.iconst 4, 1) := by decide +kernel
theorem dX4_keepValue_5 : decode cX4_keepValue 5 = .ok (.if_icmp .lt 4, 3) := by decide +kernel
theorem dX4_keepValue_8 : decode cX4_keepValue 8 = .ok (.return_, 1) := by decide +kernel
theorem dX4_keepValue_9 : decode cX4_keepValue 9 = .ok (.aload_n 0, 1) := by decide +kernel
theorem dX4_keepValue_10 : decode cX4_keepValue 10 = .ok (.getfield 15, 3) := by decide +kernel
theorem dX4_keepValue_13 : decode cX4_keepValue 13 = .ok (.aload_n 0, 1) := by decide +kernel
theorem dX4_keepValue_14 : decode cX4_keepValue 14 = .ok (.getfield 51, 3) := by decide +kernel
theorem dX4_keepValue_17 : decode cX4_keepValue 17 = .ok (.iload_n 1, 1) := by decide +kernel
theorem dX4_keepValue_18 : decode cX4_keepValue 18 = .ok (.iastore, 1) := by decide +kernel
theorem dX4_keepValue_19 : decode cX4_keepValue 19 = .ok (.aload_n 0, 1) := by decide +kernel
theorem dX4_keepValue_20 : decode cX4_keepValue 20 = .ok (.dup, 1) := by decide +kernel
theorem dX4_keepValue_21 : decode cX4_keepValue 21 = .ok (.getfield 51, 3) := by decide +kernel
theorem dX4_keepValue_24 : decode cX4_keepValue 24 = .ok (.iconst 1, 1) := by decide +kernel
theorem dX4_keepValue_25 : decode cX4_keepValue 25 = .ok (.iadd, 1) := by decide +kernel
theorem dX4_keepValue_26 : decode cX4_keepValue 26 = .ok (.putfield 51, 3) := by decide +kernel
theorem dX4_keepValue_29 : decode cX4_keepValue 29 = .ok (.return_, 1) := by decide +kernel
theorem dX5_init_0 : decode cX5_init 0 = .ok (.aload_n 0, 1) := by decide +kernel
theorem dX5_init_1 : decode cX5_init 1 = .ok (.invokespecial 3, 3) := by decide +kernel
theorem dX5_init_4 : decode cX5_init 4 = .ok (.aload_n 0, 1) := by decide +kernel
theorem dX5_init_5 : decode cX5_init 5 = .ok (.iconst 5, 1) := by decide +kernel
theorem dX5_init_6 : decode cX5_init 6 = .ok (.newarray .int, 2) := by decide +kernel
theorem dX5_init_8 : decode cX5_init 8 = .ok (.putfield 9, 3) := by decide +kernel
theorem dX5_init_11 : decode cX5_init 11 = .ok (.aload_n 0, 1) := by decide +kernel
theorem dX5_init_12 : decode cX5_init 12 = .ok (.iconst 5, 1) := by decide +kernel
theorem dX5_init_13 : decode cX5_init 13 = .ok (.newarray .int, 2) := by decide +kernel
theorem dX5_init_15 : decode cX5_init 15 = .ok (.putfield 15, 3) := by decide +kernel
theorem dX5_init_18 : decode cX5_init 18 = .ok (.return_, 1) := by decide +kernel
theorem dX5_copyFrom_0 : decode cX5_copyFrom 0 = .ok (.aload_n 0, 1) := by decide +kernel
theorem dX5_copyFrom_1 : decode cX5_copyFrom 1 = .ok (.aload_n 1, 1) := by decide +kernel
theorem dX5_copyFrom_2 : decode cX5_copyFrom 2 = .ok (.getfield 18, 3) := by decide +kernel
theorem dX5_copyFrom_5 : decode cX5_copyFrom 5 = .ok (.putfield 18, 3) := by decide +kernel
theorem dX5_copyFrom_8 : decode cX5_copyFrom 8 = .ok (.aload_n 1, 1) := by decide +kernel
theorem dX5_copyFrom_9 : decode cX5_copyFrom 9 = .ok (.getfield 9, 3) := by decide +kernel
theorem dX5_copyFrom_12 : decode cX5_copyFrom 12 = .ok (.aload_n 0, 1) := by decide +kernel
theorem dX5_copyFrom_13 : decode cX5_copyFrom 13 = .ok (.getfield 9, 3) := by decide +kernel
theorem dX5_copyFrom_16 : decode cX5_copyFrom 16 = .ok (.aload_n 0, 1) := by decide +kernel
theorem dX5_copyFrom_17 : decode cX5_copyFrom 17 = .ok (.getfield 18, 3) := by decide +kernel
theorem dX5_copyFrom_20 : decode cX5_copyFrom 20 = .ok (.invokestatic 22, 3) := by decide +kernel
theorem dX5_copyFrom_23 : decode cX5_copyFrom 23 = .ok (.aload_n 1, 1) := by decide +kernel
theorem dX5_copyFrom_24 : decode cX5_copyFrom 24 = .ok (.getfield 15, 3) := by decide +kernel
theorem dX5_copyFrom_27 : decode cX5_copyFrom 27 = .ok (.aload_n 0, 1) := by decide +kernel
theorem dX5_copyFrom_28 : decode cX5_copyFrom 28 = .ok (.getfield 15, 3) := by decide +kernel
theorem dX5_copyFrom_31 : decode cX5_copyFrom 31 = .ok (.aload_n 0, 1) := by decide +kernel
theorem dX5_copyFrom_32 : decode cX5_copyFrom 32 = .ok (.getfield 18, 3) := by decide +kernel
theorem dX5_copyFrom_35 : decode cX5_copyFrom 35 = .ok (.invokestatic 22, 3) := by decide +kernel
theorem dX5_copyFrom_38 : decode cX5_copyFrom 38 = .ok (.return_, 1) := by decide +kernel
theorem dX5_addStop_0 : decode cX5_addStop 0 = .ok (.iload_n 1, 1) := by decide +kernel
theorem dX5_addStop_1 : decode cX5_addStop 1 = .ok (.iconst 0, 1) := by decide +kernel
theorem dX5_addStop_2 : decode cX5_addStop 2 = .ok (.sipush 999, 3) := by decide +kernel
theorem dX5_addStop_5 : decode cX5_addStop 5 = .ok (.invokestatic 26, 3) := by decide +kernel
theorem dX5_addStop_8 : decode cX5_addStop 8 = .ok (.ifCond .eq 14, 3) := by decide +kernel
theorem dX5_addStop_11 : decode cX5_addStop 11 = .ok (.iload_n 2, 1) := by decide +kernel
theorem dX5_addStop_12 : decode cX5_addStop 12 = .ok (.iload_n 1, 1) := by decide +kernel
theorem dX5_addStop_13 : decode cX5_addStop 13 = .ok (.sipush 999, 3) := by decide +kernel
theorem dX5_addStop_16 : decode cX5_addStop 16 = .ok (.invokestatic 26, 3) := by decide +kernel
theorem dX5_addStop_19 : decode cX5_addStop 19 = .ok (.ifCond .ne 6, 3) := by decide +kernel
theorem dX5_addStop_22 : decode cX5_addStop 22 = .ok (.bipush (-2), 2) := by decide +kernel
theorem dX5_addStop_24 : decode cX5_addStop 24 = .ok (.ireturn, 1) := by decide +kernel
theorem dX5_addStop_25 : decode cX5_addStop 25 = .ok (.aload_n 0, 1) := by decide +kernel
theorem dX5_addStop_26 : decode cX5_addStop 26 = .ok (.getfield 18, 3) := by decide +kernel
theorem dX5_addStop_29 : decode cX5_addStop 29 = .ok (.iconst 5, 1) := by decide +kernel
theorem dX5_addStop_30 : decode cX5_addStop 30 = .ok (.if_icmp .lt 6, 3) := by decide +kernel
theorem dX5_addStop_33 : decode cX5_addStop 33 = .ok (.bipush (-4), 2) := by decide +kernel
theorem dX5_addStop_35 : decode cX5_addStop 35 = .ok (.ireturn, 1) := by decide +kernel
theorem dX5_addStop_36 : decode cX5_addStop 36 = .ok (.aload_n 0, 1) := by decide +kernel
theorem dX5_addStop_37 : decode cX5_addStop 37 = .ok (.getfield 9, 3) := by decide +kernel
theorem dX5_addStop_40 : decode cX5_addStop 40 = .ok (.aload_n 0, 1) := by decide +kernel
theorem dX5_addStop_41 : decode cX5_addStop 41 = .ok (.getfield 18, 3) := by decide +kernel
theorem dX5_addStop_44 : decode cX5_addStop 44 = .ok (.iload_n 1, 1) := by decide +kernel
theorem dX5_addStop_45 : decode cX5_addStop 45 = .ok (.iastore, 1) := by decide +kernel
theorem dX5_addStop_46 : decode cX5_addStop 46 = .ok (.aload_n 0, 1) := by decide +kernel
theorem dX5_addStop_47 : decode cX5_addStop 47 = .ok (.getfield 15, 3) := by decide +kernel
theorem dX5_addStop_50 : decode cX5_addStop 50 = .ok (.aload_n 0, 1) := by decide +kernel
theorem dX5_addStop_51 : decode cX5_addStop 51 = .ok (.getfield 18, 3) := by decide +kernel
theorem dX5_addStop_54 : decode cX5_addStop 54 = .ok (.iload_n 2, 1) := by decide +kernel
theorem dX5_addStop_55 : decode cX5_addStop 55 = .ok (.iastore, 1) := by decide +kernel
theorem dX5_addStop_56 : decode cX5_addStop 56 = .ok (.aload_n 0, 1) := by decide +kernel
theorem dX5_addStop_57 : decode cX5_addStop 57 = .ok (.dup, 1) := by decide +kernel
theorem dX5_addStop_58 : decode cX5_addStop 58 = .ok (.getfield 18, 3) := by decide +kernel
theorem dX5_addStop_61 : decode cX5_addStop 61 = .ok (.iconst 1, 1) := by decide +kernel
theorem dX5_addStop_62 : decode cX5_addStop 62 = .ok (.iadd, 1) := by decide +kernel
theorem dX5_addStop_63 : decode cX5_addStop 63 = .ok (.putfield 18, 3) := by decide +kernel
theorem dX5_addStop_66 : decode cX5_addStop 66 = .ok (.aload_n 0, 1) := by decide +kernel
theorem dX5_addStop_67 : decode cX5_addStop 67 = .ok (.getfield 18, 3) := by decide +kernel
theorem dX5_addStop_70 : decode cX5_addStop 70 = .ok (.iconst 1, 1) := by decide +kernel
theorem dX5_addStop_71 : decode cX5_addStop 71 = .ok (.isub, 1) := by decide +kernel
theorem dX5_addStop_72 : decode cX5_addStop 72 = .ok (.ireturn, 1) := by decide +kernel
theorem dX5_removeStop_0 : decode cX5_removeStop 0 = .ok (.iload_n 1, 1) := by decide +kernel
theorem dX5_removeStop_1 : decode cX5_removeStop 1 = .ok (.iconst 0, 1) := by decide +kernel
theorem dX5_removeStop_2 : decode cX5_removeStop 2 = .ok (.aload_n 0, 1) := by decide +kernel
theorem dX5_removeStop_3 : decode cX5_removeStop 3 = .ok (.getfield 18, 3) := by decide +kernel
theorem dX5_removeStop_6 : decode cX5_removeStop 6 = .ok (.iconst 1, 1) := by decide +kernel
theorem dX5_removeStop_7 : decode cX5_removeStop 7 = .ok (.isub, 1) := by decide +kernel
theorem dX5_removeStop_8 : decode cX5_removeStop 8 = .ok (.invokestatic 26, 3) := by decide +kernel
theorem dX5_removeStop_11 : decode cX5_removeStop 11 = .ok (.ifCond .ne 5, 3) := by decide +kernel
theorem dX5_removeStop_14 : decode cX5_removeStop 14 = .ok (.iconst (-1), 1) := by decide +kernel
theorem dX5_removeStop_15 : decode cX5_removeStop 15 = .ok (.ireturn, 1) := by decide +kernel
theorem dX5_removeStop_16 : decode cX5_removeStop 16 = .ok (.iload_n 1, 1) := by decide +kernel
theorem dX5_removeStop_17 : decode cX5_removeStop 17 = .ok (.iconst 1, 1) := by decide +kernel
theorem dX5_removeStop_18 : decode cX5_removeStop 18 = .ok (.iadd, 1) := by decide +kernel
theorem dX5_removeStop_19 : decode cX5_removeStop 19 = .ok (.istore_n 2, 1) := by decide +kernel
theorem dX5_removeStop_20 : decode cX5_removeStop 20 = .ok (.iload_n 2, 1) := by decide +kernel
theorem dX5_removeStop_21 : decode cX5_removeStop 21 = .ok (.aload_n 0, 1) := by decide +kernel
theorem dX5_removeStop_22 : decode cX5_removeStop 22 = .ok (.getfield 18, 3) := by decide +kernel
theorem dX5_removeStop_25 : decode cX5_removeStop 25 = .ok (.if_icmp .ge 37, 3) := by decide +kernel
theorem dX5_removeStop_28 : decode cX5_removeStop 28 = .ok (.aload_n 0, 1) := by decide +kernel
theorem dX5_removeStop_29 : decode cX5_removeStop 29 = .ok (.getfield 9, 3) := by decide +kernel
theorem dX5_removeStop_32 : decode cX5_removeStop 32 = .ok (.iload_n 2, 1) := by decide +kernel
theorem dX5_removeStop_33 : decode cX5_removeStop 33 = .ok (.iconst 1, 1) := by decide +kernel
theorem dX5_removeStop_34 : decode cX5_removeStop 34 = .ok (.isub, 1) := by decide +kernel
theorem dX5_removeStop_35 : decode cX5_removeStop 35 = .ok (.aload_n 0, 1) := by decide +kernel
theorem dX5_removeStop_36 : decode cX5_removeStop 36 = .ok (.getfield 9, 3) := by decide +kernel
theorem dX5_removeStop_39 : decode cX5_removeStop 39 = .ok (.iload_n 2, 1) := by decide +kernel
theorem dX5_removeStop_40 : decode cX5_removeStop 40 = .ok (.iaload, 1) := by decide +kernel
theorem dX5_removeStop_41 : decode cX5_removeStop 41 = .ok (.iastore, 1) := by decide +kernel
theorem dX5_removeStop_42 : decode cX5_removeStop 42 = .ok (.aload_n 0, 1) := by decide +kernel
theorem dX5_removeStop_43 : decode cX5_removeStop 43 = .ok (.getfield 15, 3) := by decide +kernel
theorem dX5_removeStop_46 : decode cX5_removeStop 46 = .ok (.iload_n 2, 1) := by decide +kernel
theorem dX5_removeStop_47 : decode cX5_removeStop 47 = .ok (.iconst 1, 1) := by decide +kernel
theorem dX5_removeStop_48 : decode cX5_removeStop 48 = .ok (.isub, 1) := by decide +kernel
theorem dX5_removeStop_49 : decode cX5_removeStop 49 = .ok (.aload_n 0, 1) := by decide +kernel
theorem dX5_removeStop_50 : decode cX5_removeStop 50 = .ok (.getfield 15, 3) := by decide +kernel
theorem dX5_removeStop_53 : decode cX5_removeStop 53 = .ok (.iload_n 2, 1) := by decide +kernel
theorem dX5_removeStop_54 : decode cX5_removeStop 54 = .ok (.iaload, 1) := by decide +kernel
theorem dX5_removeStop_55 : decode cX5_removeStop 55 = .ok (.iastore, 1) := by decide +kernel
theorem dX5_removeStop_56 : decode cX5_removeStop 56 = .ok (.iinc 2 1, 3) := by decide +kernel
theorem dX5_removeStop_59 : decode cX5_removeStop 59 = .ok (.goto (-39), 3) := by decide +kernel
theorem dX5_removeStop_62 : decode cX5_removeStop 62 = .ok (.aload_n 0, 1) := by decide +kernel
theorem dX5_removeStop_63 : decode cX5_removeStop 63 = .ok (.dup, 1) := by decide +kernel
theorem dX5_removeStop_64 : decode cX5_removeStop 64 = .ok (.getfield 18, 3) := by decide +kernel
theorem dX5_removeStop_67 : decode cX5_removeStop 67 = .ok (.iconst 1, 1) := by decide +kernel
theorem dX5_removeStop_68 : decode cX5_removeStop 68 = .ok (.isub, 1) := by decide +kernel
theorem dX5_removeStop_69 : decode cX5_removeStop 69 = .ok (.putfield 18, 3) := by decide +kernel
theorem dX5_removeStop_72 : decode cX5_removeStop 72 = .ok (.aload_n 0, 1) := by decide +kernel
theorem dX5_removeStop_73 : decode cX5_removeStop 73 = .ok (.getfield 18, 3) := by decide +kernel
theorem dX5_removeStop_76 : decode cX5_removeStop 76 = .ok (.ireturn, 1) := by decide +kernel
theorem dX5_isStopped_0 : decode cX5_isStopped 0 = .ok (.iconst 0, 1) := by decide +kernel
theorem dX5_isStopped_1 : decode cX5_isStopped 1 = .ok (.istore_n 2, 1) := by decide +kernel
theorem dX5_isStopped_2 : decode cX5_isStopped 2 = .ok (.iload_n 2, 1) := by decide +kernel
theorem dX5_isStopped_3 : decode cX5_isStopped 3 = .ok (.aload_n 0, 1) := by decide +kernel
theorem dX5_isStopped_4 : decode cX5_isStopped 4 = .ok (.getfield 18, 3) := by decide +kernel
theorem dX5_isStopped_7 : decode cX5_isStopped 7 = .ok (.if_icmp .ge 30, 3) := by decide +kernel
theorem dX5_isStopped_10 : decode cX5_isStopped 10 = .ok (.iload_n 1, 1) := by decide +kernel
theorem dX5_isStopped_11 : decode cX5_isStopped 11 = .ok (.aload_n 0, 1) := by decide +kernel
theorem dX5_isStopped_12 : decode cX5_isStopped 12 = .ok (.getfield 9, 3) := by decide +kernel
theorem dX5_isStopped_15 : decode cX5_isStopped 15 = .ok (.iload_n 2, 1) := by decide +kernel
theorem dX5_isStopped_16 : decode cX5_isStopped 16 = .ok (.iaload, 1) := by decide +kernel
theorem dX5_isStopped_17 : decode cX5_isStopped 17 = .ok (.aload_n 0, 1) := by decide +kernel
theorem dX5_isStopped_18 : decode cX5_isStopped 18 = .ok (.getfield 15, 3) := by decide +kernel
theorem dX5_isStopped_21 : decode cX5_isStopped 21 = .ok (.iload_n 2, 1) := by decide +kernel
theorem dX5_isStopped_22 : decode cX5_isStopped 22 = .ok (.iaload, 1) := by decide +kernel
theorem dX5_isStopped_23 : decode cX5_isStopped 23 = .ok (.invokestatic 26, 3) := by decide +kernel
theorem dX5_isStopped_26 : decode cX5_isStopped 26 = .ok (.ifCond .eq 5, 3) := by decide +kernel
theorem dX5_isStopped_29 : decode cX5_isStopped 29 = .ok (.iconst 1, 1) := by decide +kernel
theorem dX5_isStopped_30 : decode cX5_isStopped 30 = .ok (.ireturn, 1) := by decide +kernel
theorem dX5_isStopped_31 : decode cX5_isStopped 31 = .ok (.iinc 2 1, 3) := by decide +kernel
theorem dX5_isStopped_34 : decode cX5_isStopped 34 = .ok (.goto (-32), 3) := by decide +kernel
theorem dX5_isStopped_37 : decode cX5_isStopped 37 = .ok (.iconst 0, 1) := by decide +kernel
theorem dX5_isStopped_38 : decode cX5_isStopped 38 = .ok (.ireturn, 1) := by decide +kernel
theorem dX6_init_0 : decode cX6_init 0 = .ok (.aload_n 0, 1) := by decide +kernel
theorem dX6_init_1 : decode cX6_init 1 = .ok (.invokespecial 3, 3) := by decide +kernel
theorem dX6_init_4 : decode cX6_init 4 = .ok (.aload_n 0, 1) := by decide +kernel
theorem dX6_init_5 : decode cX6_init 5 = .ok (.sipush 400, 3) := by decide +kernel
theorem dX6_init_8 : decode cX6_init 8 = .ok (.newarray .int, 2) := by decide +kernel
theorem dX6_init_10 : decode cX6_init 10 = .ok (.putfield 9, 3) := by decide +kernel
theorem dX6_init_13 : decode cX6_init 13 = .ok (.aload_n 0, 1) := by decide +kernel
theorem dX6_init_14 : decode cX6_init 14 = .ok (.sipush 400, 3) := by decide +kernel

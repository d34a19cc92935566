theorem dX6_init_17 : decode cX6_init 17 = .ok (.newarray .int, 2) := by decide +kernel
theorem dX6_init_19 : decode cX6_init 19 = .ok (.putfield 15, 3) := by decide +kernel
theorem dX6_init_22 : decode cX6_init 22 = .ok (.aload_n 0, 1) := by decide +kernel
theorem dX6_init_23 : decode cX6_init 23 = .ok (.sipush 400, 3) := by decide +kernel
theorem dX6_init_26 : decode cX6_init 26 = .ok (.newarray .int, 2) := by decide +kernel
theorem dX6_init_28 : decode cX6_init 28 = .ok (.putfield 18, 3) := by decide +kernel
theorem dX6_init_31 : decode cX6_init 31 = .ok (.return_, 1) := by decide +kernel
theorem dX6_copyFrom_0 : decode cX6_copyFrom 0 = .ok (.aload_n 0, 1) := by decide +kernel
theorem dX6_copyFrom_1 : decode cX6_copyFrom 1 = .ok (.aload_n 1, 1) := by decide +kernel
theorem dX6_copyFrom_2 : decode cX6_copyFrom 2 = .ok (.getfield 21, 3) := by decide +kernel
theorem dX6_copyFrom_5 : decode cX6_copyFrom 5 = .ok (.putfield 21, 3) := by decide +kernel
theorem dX6_copyFrom_8 : decode cX6_copyFrom 8 = .ok (.aload_n 0, 1) := by decide +kernel
theorem dX6_copyFrom_9 : decode cX6_copyFrom 9 = .ok (.aload_n 1, 1) := by decide +kernel
theorem dX6_copyFrom_10 : decode cX6_copyFrom 10 = .ok (.getfield 25, 3) := by decide +kernel
theorem dX6_copyFrom_13 : decode cX6_copyFrom 13 = .ok (.putfield 25, 3) := by decide +kernel
theorem dX6_copyFrom_16 : decode cX6_copyFrom 16 = .ok (.aload_n 1, 1) := by decide +kernel
theorem dX6_copyFrom_17 : decode cX6_copyFrom 17 = .ok (.getfield 9, 3) := by decide +kernel
theorem dX6_copyFrom_20 : decode cX6_copyFrom 20 = .ok (.aload_n 0, 1) := by decide +kernel
theorem dX6_copyFrom_21 : decode cX6_copyFrom 21 = .ok (.getfield 9, 3) := by decide +kernel
theorem dX6_copyFrom_24 : decode cX6_copyFrom 24 = .ok (.aload_n 0, 1) := by decide +kernel
theorem dX6_copyFrom_25 : decode cX6_copyFrom 25 = .ok (.getfield 21, 3) := by decide +kernel
theorem dX6_copyFrom_28 : decode cX6_copyFrom 28 = .ok (.invokestatic 28, 3) := by decide +kernel
theorem dX6_copyFrom_31 : decode cX6_copyFrom 31 = .ok (.aload_n 1, 1) := by decide +kernel
theorem dX6_copyFrom_32 : decode cX6_copyFrom 32 = .ok (.getfield 15, 3) := by decide +kernel
theorem dX6_copyFrom_35 : decode cX6_copyFrom 35 = .ok (.aload_n 0, 1) := by decide +kernel
theorem dX6_copyFrom_36 : decode cX6_copyFrom 36 = .ok (.getfield 15, 3) := by decide +kernel
theorem dX6_copyFrom_39 : decode cX6_copyFrom 39 = .ok (.aload_n 0, 1) := by decide +kernel
theorem dX6_copyFrom_40 : decode cX6_copyFrom 40 = .ok (.getfield 21, 3) := by decide +kernel
theorem dX6_copyFrom_43 : decode cX6_copyFrom 43 = .ok (.invokestatic 28, 3) := by decide +kernel
theorem dX6_copyFrom_46 : decode cX6_copyFrom 46 = .ok (.aload_n 1, 1) := by decide +kernel
theorem dX6_copyFrom_47 : decode cX6_copyFrom 47 = .ok (.getfield 18, 3) := by decide +kernel
theorem dX6_copyFrom_50 : decode cX6_copyFrom 50 = .ok (.aload_n 0, 1) := by decide +kernel
theorem dX6_copyFrom_51 : decode cX6_copyFrom 51 = .ok (.getfield 18, 3) := by decide +kernel
theorem dX6_copyFrom_54 : decode cX6_copyFrom 54 = .ok (.aload_n 0, 1) := by decide +kernel
theorem dX6_copyFrom_55 : decode cX6_copyFrom 55 = .ok (.getfield 21, 3) := by decide +kernel
theorem dX6_copyFrom_58 : decode cX6_copyFrom 58 = .ok (.invokestatic 28, 3) := by decide +kernel
theorem dX6_copyFrom_61 : decode cX6_copyFrom 61 = .ok (.return_, 1) := by decide +kernel
theorem dX6_append_0 : decode cX6_append 0 = .ok (.aload_n 0, 1) := by decide +kernel
theorem dX6_append_1 : decode cX6_append 1 = .ok (.getfield 21, 3) := by decide +kernel
theorem dX6_append_4 : decode cX6_append 4 = .ok (.sipush 400, 3) := by decide +kernel
theorem dX6_append_7 : decode cX6_append 7 = .ok (.if_icmp .lt 4, 3) := by decide +kernel
theorem dX6_append_10 : decode cX6_append 10 = .ok (.return_, 1) := by decide +kernel
theorem dX6_append_11 : decode cX6_append 11 = .ok (.aload_n 0, 1) := by decide +kernel
theorem dX6_append_12 : decode cX6_append 12 = .ok (.getfield 9, 3) := by decide +kernel
theorem dX6_append_15 : decode cX6_append 15 = .ok (.aload_n 0, 1) := by decide +kernel
theorem dX6_append_16 : decode cX6_append 16 = .ok (.getfield 21, 3) := by decide +kernel
theorem dX6_append_19 : decode cX6_append 19 = .ok (.iload_n 1, 1) := by decide +kernel
theorem dX6_append_20 : decode cX6_append 20 = .ok (.iastore, 1) := by decide +kernel
theorem dX6_append_21 : decode cX6_append 21 = .ok (.aload_n 0, 1) := by decide +kernel
theorem dX6_append_22 : decode cX6_append 22 = .ok (.getfield 15, 3) := by decide +kernel
theorem dX6_append_25 : decode cX6_append 25 = .ok (.aload_n 0, 1) := by decide +kernel
theorem dX6_append_26 : decode cX6_append 26 = .ok (.getfield 21, 3) := by decide +kernel
theorem dX6_append_29 : decode cX6_append 29 = .ok (.iload_n 2, 1) := by decide +kernel
theorem dX6_append_30 : decode cX6_append 30 = .ok (.iastore, 1) := by decide +kernel
theorem dX6_append_31 : decode cX6_append 31 = .ok (.aload_n 0, 1) := by decide +kernel
theorem dX6_append_32 : decode cX6_append 32 = .ok (.getfield 18, 3) := by decide +kernel
theorem dX6_append_35 : decode cX6_append 35 = .ok (.aload_n 0, 1) := by decide +kernel
theorem dX6_append_36 : decode cX6_append 36 = .ok (.getfield 21, 3) := by decide +kernel
theorem dX6_append_39 : decode cX6_append 39 = .ok (.iload_n 3, 1) := by decide +kernel
theorem dX6_append_40 : decode cX6_append 40 = .ok (.iastore, 1) := by decide +kernel
theorem dX6_append_41 : decode cX6_append 41 = .ok (.aload_n 0, 1) := by decide +kernel
theorem dX6_append_42 : decode cX6_append 42 = .ok (.dup, 1) := by decide +kernel
theorem dX6_append_43 : decode cX6_append 43 = .ok (.getfield 21, 3) := by decide +kernel
theorem dX6_append_46 : decode cX6_append 46 = .ok (.iconst 1, 1) := by decide +kernel
theorem dX6_append_47 : decode cX6_append 47 = .ok (.iadd, 1) := by decide +kernel
theorem dX6_append_48 : decode cX6_append 48 = .ok (.putfield 21, 3) := by decide +kernel
theorem dX6_append_51 : decode cX6_append 51 = .ok (.aload_n 0, 1) := by decide +kernel
theorem dX6_append_52 : decode cX6_append 52 = .ok (.dup, 1) := by decide +kernel
theorem dX6_append_53 : decode cX6_append 53 = .ok (.getfield 25, 3) := by decide +kernel
theorem dX6_append_56 : decode cX6_append 56 = .ok (.iload_n 2, 1) := by decide +kernel
theorem dX6_append_57 : decode cX6_append 57 = .ok (.iadd, 1) := by decide +kernel
theorem dX6_append_58 : decode cX6_append 58 = .ok (.putfield 25, 3) := by decide +kernel
theorem dX6_append_61 : decode cX6_append 61 = .ok (.return_, 1) := by decide +kernel
theorem dX6_takeFrom_0 : decode cX6_takeFrom 0 = .ok (.iload_n 1, 1) := by decide +kernel
theorem dX6_takeFrom_1 : decode cX6_takeFrom 1 = .ok (.iconst 0, 1) := by decide +kernel
theorem dX6_takeFrom_2 : decode cX6_takeFrom 2 = .ok (.aload_n 0, 1) := by decide +kernel
theorem dX6_takeFrom_3 : decode cX6_takeFrom 3 = .ok (.getfield 21, 3) := by decide +kernel
theorem dX6_takeFrom_6 : decode cX6_takeFrom 6 = .ok (.iconst 1, 1) := by decide +kernel
theorem dX6_takeFrom_7 : decode cX6_takeFrom 7 = .ok (.isub, 1) := by decide +kernel
theorem dX6_takeFrom_8 : decode cX6_takeFrom 8 = .ok (.invokestatic 32, 3) := by decide +kernel
theorem dX6_takeFrom_11 : decode cX6_takeFrom 11 = .ok (.ifCond .ne 5, 3) := by decide +kernel
theorem dX6_takeFrom_14 : decode cX6_takeFrom 14 = .ok (.iconst 0, 1) := by decide +kernel
theorem dX6_takeFrom_15 : decode cX6_takeFrom 15 = .ok (.ireturn, 1) := by decide +kernel
theorem dX6_takeFrom_16 : decode cX6_takeFrom 16 = .ok (.aload_n 0, 1) := by decide +kernel
theorem dX6_takeFrom_17 : decode cX6_takeFrom 17 = .ok (.getfield 15, 3) := by decide +kernel
theorem dX6_takeFrom_20 : decode cX6_takeFrom 20 = .ok (.iload_n 1, 1) := by decide +kernel
theorem dX6_takeFrom_21 : decode cX6_takeFrom 21 = .ok (.dup2, 1) := by decide +kernel
theorem dX6_takeFrom_22 : decode cX6_takeFrom 22 = .ok (.iaload, 1) := by decide +kernel
theorem dX6_takeFrom_23 : decode cX6_takeFrom 23 = .ok (.iload_n 2, 1) := by decide +kernel
theorem dX6_takeFrom_24 : decode cX6_takeFrom 24 = .ok (.isub, 1) := by decide +kernel
theorem dX6_takeFrom_25 : decode cX6_takeFrom 25 = .ok (.iastore, 1) := by decide +kernel
theorem dX6_takeFrom_26 : decode cX6_takeFrom 26 = .ok (.aload_n 0, 1) := by decide +kernel
theorem dX6_takeFrom_27 : decode cX6_takeFrom 27 = .ok (.dup, 1) := by decide +kernel
theorem dX6_takeFrom_28 : decode cX6_takeFrom 28 = .ok (.getfield 25, 3) := by decide +kernel
theorem dX6_takeFrom_31 : decode cX6_takeFrom 31 = .ok (.iload_n 2, 1) := by decide +kernel
theorem dX6_takeFrom_32 : decode cX6_takeFrom 32 = .ok (.isub, 1) := by decide +kernel
theorem dX6_takeFrom_33 : decode cX6_takeFrom 33 = .ok (.putfield 25, 3) := by decide +kernel
theorem dX6_takeFrom_36 : decode cX6_takeFrom 36 = .ok (.aload_n 0, 1) := by decide +kernel
theorem dX6_takeFrom_37 : decode cX6_takeFrom 37 = .ok (.getfield 15, 3) := by decide +kernel
theorem dX6_takeFrom_40 : decode cX6_takeFrom 40 = .ok (.iload_n 1, 1) := by decide +kernel
theorem dX6_takeFrom_41 : decode cX6_takeFrom 41 = .ok (.iaload, 1) := by decide +kernel
theorem dX6_takeFrom_42 : decode cX6_takeFrom 42 = .ok (.ireturn, 1) := by decide +kernel
theorem dX6_dropFirst_0 : decode cX6_dropFirst 0 = .ok (.iload_n 1, 1) := by decide +kernel
theorem dX6_dropFirst_1 : decode cX6_dropFirst 1 = .ok (.istore_n 2, 1) := by decide +kernel
theorem dX6_dropFirst_2 : decode cX6_dropFirst 2 = .ok (.iload_n 2, 1) := by decide +kernel
theorem dX6_dropFirst_3 : decode cX6_dropFirst 3 = .ok (.aload_n 0, 1) := by decide +kernel
theorem dX6_dropFirst_4 : decode cX6_dropFirst 4 = .ok (.getfield 21, 3) := by decide +kernel
theorem dX6_dropFirst_7 : decode cX6_dropFirst 7 = .ok (.if_icmp .ge 51, 3) := by decide +kernel
theorem dX6_dropFirst_10 : decode cX6_dropFirst 10 = .ok (.aload_n 0, 1) := by decide +kernel
theorem dX6_dropFirst_11 : decode cX6_dropFirst 11 = .ok (.getfield 9, 3) := by decide +kernel
theorem dX6_dropFirst_14 : decode cX6_dropFirst 14 = .ok (.iload_n 2, 1) := by decide +kernel
theorem dX6_dropFirst_15 : decode cX6_dropFirst 15 = .ok (.iload_n 1, 1) := by decide +kernel
theorem dX6_dropFirst_16 : decode cX6_dropFirst 16 = .ok (.isub, 1) := by decide +kernel
theorem dX6_dropFirst_17 : decode cX6_dropFirst 17 = .ok (.aload_n 0, 1) := by decide +kernel
theorem dX6_dropFirst_18 : decode cX6_dropFirst 18 = .ok (.getfield 9, 3) := by decide +kernel
theorem dX6_dropFirst_21 : decode cX6_dropFirst 21 = .ok (.iload_n 2, 1) := by decide +kernel
theorem dX6_dropFirst_22 : decode cX6_dropFirst 22 = .ok (.iaload, 1) := by decide +kernel
theorem dX6_dropFirst_23 : decode cX6_dropFirst 23 = .ok (.iastore, 1) := by decide +kernel
theorem dX6_dropFirst_24 : decode cX6_dropFirst 24 = .ok (.aload_n 0, 1) := by decide +kernel
theorem dX6_dropFirst_25 : decode cX6_dropFirst 25 = .ok (.getfield 15, 3) := by decide +kernel
theorem dX6_dropFirst_28 : decode cX6_dropFirst 28 = .ok (.iload_n 2, 1) := by decide +kernel
theorem dX6_dropFirst_29 : decode cX6_dropFirst 29 = .ok (.iload_n 1, 1) := by decide +kernel
theorem dX6_dropFirst_30 : decode cX6_dropFirst 30 = .ok (.isub, 1) := by decide +kernel
theorem dX6_dropFirst_31 : decode cX6_dropFirst 31 = .ok (.aload_n 0, 1) := by decide +kernel
theorem dX6_dropFirst_32 : decode cX6_dropFirst 32 = .ok (.getfield 15, 3) := by decide +kernel
theorem dX6_dropFirst_35 : decode cX6_dropFirst 35 = .ok (.iload_n 2, 1) := by decide +kernel
theorem dX6_dropFirst_36 : decode cX6_dropFirst 36 = .ok (.iaload, 1) := by decide +kernel
theorem dX6_dropFirst_37 : decode cX6_dropFirst 37 = .ok (.iastore, 1) := by decide +kernel
theorem dX6_dropFirst_38 : decode cX6_dropFirst 38 = .ok (.aload_n 0, 1) := by decide +kernel
theorem dX6_dropFirst_39 : decode cX6_dropFirst 39 = .ok (.getfield 18, 3) := by decide +kernel
theorem dX6_dropFirst_42 : decode cX6_dropFirst 42 = .ok (.iload_n 2, 1) := by decide +kernel
theorem dX6_dropFirst_43 : decode cX6_dropFirst 43 = .ok (.iload_n 1, 1) := by decide +kernel
theorem dX6_dropFirst_44 : decode cX6_dropFirst 44 = .ok (.isub, 1) := by decide +kernel
theorem dX6_dropFirst_45 : decode cX6_dropFirst 45 = .ok (.aload_n 0, 1) := by decide +kernel
theorem dX6_dropFirst_46 : decode cX6_dropFirst 46 = .ok (.getfield 18, 3) := by decide +kernel
theorem dX6_dropFirst_49 : decode cX6_dropFirst 49 = .ok (.iload_n 2, 1) := by decide +kernel
theorem dX6_dropFirst_50 : decode cX6_dropFirst 50 = .ok (.iaload, 1) := by decide +kernel
theorem dX6_dropFirst_51 : decode cX6_dropFirst 51 = .ok (.iastore, 1) := by decide +kernel
theorem dX6_dropFirst_52 : decode cX6_dropFirst 52 = .ok (.iinc 2 1, 3) := by decide +kernel
theorem dX6_dropFirst_55 : decode cX6_dropFirst 55 = .ok (.goto (-53), 3) := by decide +kernel
theorem dX6_dropFirst_58 : decode cX6_dropFirst 58 = .ok (.aload_n 0, 1) := by decide +kernel
theorem dX6_dropFirst_59 : decode cX6_dropFirst 59 = .ok (.dup, 1) := by decide +kernel
theorem dX6_dropFirst_60 : decode cX6_dropFirst 60 = .ok (.getfield 21, 3) := by decide +kernel
theorem dX6_dropFirst_63 : decode cX6_dropFirst 63 = .ok (.iload_n 1, 1) := by decide +kernel
theorem dX6_dropFirst_64 : decode cX6_dropFirst 64 = .ok (.isub, 1) := by decide +kernel
theorem dX6_dropFirst_65 : decode cX6_dropFirst 65 = .ok (.putfield 21, 3) := by decide +kernel
theorem dX6_dropFirst_68 : decode cX6_dropFirst 68 = .ok (.return_, 1) := by decide +kernel
theorem dX6_numberOfLoad_0 : decode cX6_numberOfLoad 0 = .ok (.iload_n 1, 1) := by decide +kernel
theorem dX6_numberOfLoad_1 : decode cX6_numberOfLoad 1 = .ok (.iconst 0, 1) := by decide +kernel
theorem dX6_numberOfLoad_2 : decode cX6_numberOfLoad 2 = .ok (.aload_n 0, 1) := by decide +kernel
theorem dX6_numberOfLoad_3 : decode cX6_numberOfLoad 3 = .ok (.getfield 21, 3) := by decide +kernel
theorem dX6_numberOfLoad_6 : decode cX6_numberOfLoad 6 = .ok (.iconst 1, 1) := by decide +kernel
theorem dX6_numberOfLoad_7 : decode cX6_numberOfLoad 7 = .ok (.isub, 1) := by decide +kernel
theorem dX6_numberOfLoad_8 : decode cX6_numberOfLoad 8 = .ok (.invokestatic 32, 3) := by decide +kernel
theorem dX6_numberOfLoad_11 : decode cX6_numberOfLoad 11 = .ok (.ifCond .ne 5, 3) := by decide +kernel
theorem dX6_numberOfLoad_14 : decode cX6_numberOfLoad 14 = .ok (.iconst (-1), 1) := by decide +kernel
theorem dX6_numberOfLoad_15 : decode cX6_numberOfLoad 15 = .ok (.ireturn, 1) := by decide +kernel
theorem dX6_numberOfLoad_16 : decode cX6_numberOfLoad 16 = .ok (.iload_n 2, 1) := by decide +kernel
theorem dX6_numberOfLoad_17 : decode cX6_numberOfLoad 17 = .ok (.tableswitch 48 0 2 #[27, 34, 41], 27) := by decide +kernel
theorem dX6_numberOfLoad_44 : decode cX6_numberOfLoad 44 = .ok (.aload_n 0, 1) := by decide +kernel
theorem dX6_numberOfLoad_45 : decode cX6_numberOfLoad 45 = .ok (.getfield 9, 3) := by decide +kernel
theorem dX6_numberOfLoad_48 : decode cX6_numberOfLoad 48 = .ok (.iload_n 1, 1) := by decide +kernel
theorem dX6_numberOfLoad_49 : decode cX6_numberOfLoad 49 = .ok (.iaload, 1) := by decide +kernel
theorem dX6_numberOfLoad_50 : decode cX6_numberOfLoad 50 = .ok (.ireturn, 1) := by decide +kernel
theorem dX6_numberOfLoad_51 : decode cX6_numberOfLoad 51 = .ok (.aload_n 0, 1) := by decide +kernel
theorem dX6_numberOfLoad_52 : decode cX6_numberOfLoad 52 = .ok (.getfield 15, 3) := by decide +kernel
theorem dX6_numberOfLoad_55 : decode cX6_numberOfLoad 55 = .ok (.iload_n 1, 1) := by decide +kernel
theorem dX6_numberOfLoad_56 : decode cX6_numberOfLoad 56 = .ok (.iaload, 1) := by decide +kernel
theorem dX6_numberOfLoad_57 : decode cX6_numberOfLoad 57 = .ok (.ireturn, 1) := by decide +kernel
theorem dX6_numberOfLoad_58 : decode cX6_numberOfLoad 58 = .ok (.aload_n 0, 1) := by decide +kernel
theorem dX6_numberOfLoad_59 : decode cX6_numberOfLoad 59 = .ok (.getfield 18, 3) := by decide +kernel
theorem dX6_numberOfLoad_62 : decode cX6_numberOfLoad 62 = .ok (.iload_n 1, 1) := by decide +kernel
theorem dX6_numberOfLoad_63 : decode cX6_numberOfLoad 63 = .ok (.iaload, 1) := by decide +kernel
theorem dX6_numberOfLoad_64 : decode cX6_numberOfLoad 64 = .ok (.ireturn, 1) := by decide +kernel
theorem dX6_numberOfLoad_65 : decode cX6_numberOfLoad 65 = .ok (.bipush (-2), 2) := by decide +kernel
theorem dX6_numberOfLoad_67 : decode cX6_numberOfLoad 67 = .ok (.ireturn, 1) := by decide +kernel
theorem dX7_init_0 : decode cX7_init 0 = .ok (.aload_n 0, 1) := by decide +kernel
theorem dX7_init_1 : decode cX7_init 1 = .ok (.invokespecial 1, 3) := by decide +kernel
theorem dX7_init_4 : decode cX7_init 4 = .ok (.aload_n 0, 1) := by decide +kernel
theorem dX7_init_5 : decode cX7_init 5 = .ok (.new 7, 3) := by decide +kernel
theorem dX7_init_8 : decode cX7_init 8 = .ok (.dup, 1) := by decide +kernel
theorem dX7_init_9 : decode cX7_init 9 = .ok (.invokespecial 9, 3) := by decide +kernel
theorem dX7_init_12 : decode cX7_init 12 = .ok (.putfield 10, 3) := by decide +kernel
theorem dX7_init_15 : decode cX7_init 15 = .ok (.aload_n 0, 1) := by decide +kernel
theorem dX7_init_16 : decode cX7_init 16 = .ok (.new 7, 3) := by decide +kernel
theorem dX7_init_19 : decode cX7_init 19 = .ok (.dup, 1) := by decide +kernel
theorem dX7_init_20 : decode cX7_init 20 = .ok (.invokespecial 9, 3) := by decide +kernel
theorem dX7_init_23 : decode cX7_init 23 = .ok (.putfield 16, 3) := by decide +kernel
theorem dX7_init_26 : decode cX7_init 26 = .ok (.aload_n 0, 1) := by decide +kernel
theorem dX7_init_27 : decode cX7_init 27 = .ok (.new 19, 3) := by decide +kernel
theorem dX7_init_30 : decode cX7_init 30 = .ok (.dup, 1) := by decide +kernel
theorem dX7_init_31 : decode cX7_init 31 = .ok (.invokespecial 21, 3) := by decide +kernel
theorem dX7_init_34 : decode cX7_init 34 = .ok (.putfield 22, 3) := by decide +kernel
theorem dX7_init_37 : decode cX7_init 37 = .ok (.aload_n 0, 1) := by decide +kernel
theorem dX7_init_38 : decode cX7_init 38 = .ok (.iconst 2, 1) := by decide +kernel
theorem dX7_init_39 : decode cX7_init 39 = .ok (.anewarray 7, 3) := by decide +kernel
theorem dX7_init_42 : decode cX7_init 42 = .ok (.putfield 26, 3) := by decide +kernel
theorem dX7_init_45 : decode cX7_init 45 = .ok (.aload_n 0, 1) := by decide +kernel
theorem dX7_init_46 : decode cX7_init 46 = .ok (.new 30, 3) := by decide +kernel
theorem dX7_init_49 : decode cX7_init 49 = .ok (.dup, 1) := by decide +kernel
theorem dX7_init_50 : decode cX7_init 50 = .ok (.invokespecial 32, 3) := by decide +kernel
theorem dX7_init_53 : decode cX7_init 53 = .ok (.putfield 33, 3) := by decide +kernel
theorem dX7_init_56 : decode cX7_init 56 = .ok (.return_, 1) := by decide +kernel
theorem dX7_set_0 : decode cX7_set 0 = .ok (.aload_n 0, 1) := by decide +kernel
theorem dX7_set_1 : decode cX7_set 1 = .ok (.getfield 22, 3) := by decide +kernel
theorem dX7_set_4 : decode cX7_set 4 = .ok (.aload_n 0, 1) := by decide +kernel
theorem dX7_set_5 : decode cX7_set 5 = .ok (.getfield 10, 3) := by decide +kernel
theorem dX7_set_8 : decode cX7_set 8 = .ok (.invokevirtual 37, 3) := by decide +kernel
theorem dX7_set_11 : decode cX7_set 11 = .ok (.aload_n 0, 1) := by decide +kernel
theorem dX7_set_12 : decode cX7_set 12 = .ok (.getfield 22, 3) := by decide +kernel
theorem dX7_set_15 : decode cX7_set 15 = .ok (.aload_n 0, 1) := by decide +kernel
theorem dX7_set_16 : decode cX7_set 16 = .ok (.getfield 10, 3) := by decide +kernel
theorem dX7_set_19 : decode cX7_set 19 = .ok (.iload_n 1, 1) := by decide +kernel
theorem dX7_set_20 : decode cX7_set 20 = .ok (.iload_n 2, 1) := by decide +kernel
theorem dX7_set_21 : decode cX7_set 21 = .ok (.invokevirtual 41, 3) := by decide +kernel
theorem dX7_set_24 : decode cX7_set 24 = .ok (.invokevirtual 45, 3) := by decide +kernel
theorem dX7_set_27 : decode cX7_set 27 = .ok (.ireturn, 1) := by decide +kernel
theorem dX7_quota_0 : decode cX7_quota 0 = .ok (.aload_n 0, 1) := by decide +kernel
theorem dX7_quota_1 : decode cX7_quota 1 = .ok (.getfield 22, 3) := by decide +kernel
theorem dX7_quota_4 : decode cX7_quota 4 = .ok (.aload_n 0, 1) := by decide +kernel
theorem dX7_quota_5 : decode cX7_quota 5 = .ok (.getfield 10, 3) := by decide +kernel
theorem dX7_quota_8 : decode cX7_quota 8 = .ok (.invokevirtual 37, 3) := by decide +kernel
theorem dX7_quota_11 : decode cX7_quota 11 = .ok (.aload_n 0, 1) := by decide +kernel
theorem dX7_quota_12 : decode cX7_quota 12 = .ok (.getfield 22, 3) := by decide +kernel
theorem dX7_quota_15 : decode cX7_quota 15 = .ok (.aload_n 0, 1) := by decide +kernel
theorem dX7_quota_16 : decode cX7_quota 16 = .ok (.getfield 10, 3) := by decide +kernel
theorem dX7_quota_19 : decode cX7_quota 19 = .ok (.iload_n 1, 1) := by decide +kernel
theorem dX7_quota_20 : decode cX7_quota 20 = .ok (.iload_n 2, 1) := by decide +kernel
theorem dX7_quota_21 : decode cX7_quota 21 = .ok (.invokevirtual 49, 3) := by decide +kernel
theorem dX7_quota_24 : decode cX7_quota 24 = .ok (.invokevirtual 45, 3) := by decide +kernel
theorem dX7_quota_27 : decode cX7_quota 27 = .ok (.ireturn, 1) := by decide +kernel
theorem dX7_lend_0 : decode cX7_lend 0 = .ok (.aload_n 0, 1) := by decide +kernel
theorem dX7_lend_1 : decode cX7_lend 1 = .ok (.getfield 22, 3) := by decide +kernel
theorem dX7_lend_4 : decode cX7_lend 4 = .ok (.aload_n 0, 1) := by decide +kernel
theorem dX7_lend_5 : decode cX7_lend 5 = .ok (.getfield 10, 3) := by decide +kernel
theorem dX7_lend_8 : decode cX7_lend 8 = .ok (.invokevirtual 37, 3) := by decide +kernel
theorem dX7_lend_11 : decode cX7_lend 11 = .ok (.aload_n 0, 1) := by decide +kernel
theorem dX7_lend_12 : decode cX7_lend 12 = .ok (.getfield 22, 3) := by decide +kernel
theorem dX7_lend_15 : decode cX7_lend 15 = .ok (.aload_n 0, 1) := by decide +kernel
theorem dX7_lend_16 : decode cX7_lend 16 = .ok (.getfield 10, 3) := by decide +kernel
theorem dX7_lend_19 : decode cX7_lend 19 = .ok (.iload_n 1, 1) := by decide +kernel
theorem dX7_lend_20 : decode cX7_lend 20 = .ok (.iload_n 2, 1) := by decide +kernel
theorem dX7_lend_21 : decode cX7_lend 21 = .ok (.iload_n 3, 1) := by decide +kernel
theorem dX7_lend_22 : decode cX7_lend 22 = .ok (.invokevirtual 52, 3) := by decide +kernel
theorem dX7_lend_25 : decode cX7_lend 25 = .ok (.invokevirtual 45, 3) := by decide +kernel
theorem dX7_lend_28 : decode cX7_lend 28 = .ok (.ireturn, 1) := by decide +kernel
theorem dX7_field_0 : decode cX7_field 0 = .ok (.aload_n 0, 1) := by decide +kernel
theorem dX7_field_1 : decode cX7_field 1 = .ok (.getfield 22, 3) := by decide +kernel
theorem dX7_field_4 : decode cX7_field 4 = .ok (.aload_n 0, 1) := by decide +kernel
theorem dX7_field_5 : decode cX7_field 5 = .ok (.getfield 10, 3) := by decide +kernel
theorem dX7_field_8 : decode cX7_field 8 = .ok (.invokevirtual 37, 3) := by decide +kernel
theorem dX7_field_11 : decode cX7_field 11 = .ok (.aload_n 0, 1) := by decide +kernel
theorem dX7_field_12 : decode cX7_field 12 = .ok (.getfield 22, 3) := by decide +kernel
theorem dX7_field_15 : decode cX7_field 15 = .ok (.aload_n 0, 1) := by decide +kernel
theorem dX7_field_16 : decode cX7_field 16 = .ok (.getfield 10, 3) := by decide +kernel
theorem dX7_field_19 : decode cX7_field 19 = .ok (.iload_n 1, 1) := by decide +kernel
theorem dX7_field_20 : decode cX7_field 20 = .ok (.iload_n 2, 1) := by decide +kernel
theorem dX7_field_21 : decode cX7_field 21 = .ok (.iload_n 3, 1) := by decide +kernel
theorem dX7_field_22 : decode cX7_field 22 = .ok (.iload 4, 2) := by decide +kernel
theorem dX7_field_24 : decode cX7_field 24 = .ok (.invokevirtual 56, 3) := by decide +kernel
theorem dX7_field_27 : decode cX7_field 27 = .ok (.invokevirtual 45, 3) := by decide +kernel
theorem dX7_field_30 : decode cX7_field 30 = .ok (.ireturn, 1) := by decide +kernel
theorem dX7_stop_0 : decode cX7_stop 0 = .ok (.aload_n 0, 1) := by decide +kernel
theorem dX7_stop_1 : decode cX7_stop 1 = .ok (.getfield 22, 3) := by decide +kernel
theorem dX7_stop_4 : decode cX7_stop 4 = .ok (.aload_n 0, 1) := by decide +kernel
theorem dX7_stop_5 : decode cX7_stop 5 = .ok (.getfield 10, 3) := by decide +kernel
theorem dX7_stop_8 : decode cX7_stop 8 = .ok (.invokevirtual 37, 3) := by decide +kernel
theorem dX7_stop_11 : decode cX7_stop 11 = .ok (.aload_n 0, 1) := by decide +kernel
theorem dX7_stop_12 : decode cX7_stop 12 = .ok (.getfield 22, 3) := by decide +kernel
theorem dX7_stop_15 : decode cX7_stop 15 = .ok (.aload_n 0, 1) := by decide +kernel
theorem dX7_stop_16 : decode cX7_stop 16 = .ok (.getfield 10, 3) := by decide +kernel
theorem dX7_stop_19 : decode cX7_stop 19 = .ok (.getfield 60, 3) := by decide +kernel
theorem dX7_stop_22 : decode cX7_stop 22 = .ok (.iload_n 1, 1) := by decide +kernel
theorem dX7_stop_23 : decode cX7_stop 23 = .ok (.iload_n 2, 1) := by decide +kernel
theorem dX7_stop_24 : decode cX7_stop 24 = .ok (.invokevirtual 64, 3) := by decide +kernel
theorem dX7_stop_27 : decode cX7_stop 27 = .ok (.invokevirtual 45, 3) := by decide +kernel
theorem dX7_stop_30 : decode cX7_stop 30 = .ok (.ireturn, 1) := by decide +kernel
theorem dX7_dropStop_0 : decode cX7_dropStop 0 = .ok (.aload_n 0, 1) := by decide +kernel
theorem dX7_dropStop_1 : decode cX7_dropStop 1 = .ok (.getfield 22, 3) := by decide +kernel
theorem dX7_dropStop_4 : decode cX7_dropStop 4 = .ok (.aload_n 0, 1) := by decide +kernel
theorem dX7_dropStop_5 : decode cX7_dropStop 5 = .ok (.getfield 10, 3) := by decide +kernel
theorem dX7_dropStop_8 : decode cX7_dropStop 8 = .ok (.invokevirtual 37, 3) := by decide +kernel
theorem dX7_dropStop_11 : decode cX7_dropStop 11 = .ok (.aload_n 0, 1) := by decide +kernel
theorem dX7_dropStop_12 : decode cX7_dropStop 12 = .ok (.getfield 22, 3) := by decide +kernel
theorem dX7_dropStop_15 : decode cX7_dropStop 15 = .ok (.aload_n 0, 1) := by decide +kernel
theorem dX7_dropStop_16 : decode cX7_dropStop 16 = .ok (.getfield 10, 3) := by decide +kernel
theorem dX7_dropStop_19 : decode cX7_dropStop 19 = .ok (.getfield 60, 3) := by decide +kernel
theorem dX7_dropStop_22 : decode cX7_dropStop 22 = .ok (.iload_n 1, 1) := by decide +kernel
theorem dX7_dropStop_23 : decode cX7_dropStop 23 = .ok (.invokevirtual 69, 3) := by decide +kernel
theorem dX7_dropStop_26 : decode cX7_dropStop 26 = .ok (.invokevirtual 45, 3) := by decide +kernel
theorem dX7_dropStop_29 : decode cX7_dropStop 29 = .ok (.ireturn, 1) := by decide +kernel
theorem dX7_pass_0 : decode cX7_pass 0 = .ok (.aload_n 0, 1) := by decide +kernel
theorem dX7_pass_1 : decode cX7_pass 1 = .ok (.getfield 22, 3) := by decide +kernel
theorem dX7_pass_4 : decode cX7_pass 4 = .ok (.aload_n 0, 1) := by decide +kernel
theorem dX7_pass_5 : decode cX7_pass 5 = .ok (.getfield 10, 3) := by decide +kernel
theorem dX7_pass_8 : decode cX7_pass 8 = .ok (.invokevirtual 37, 3) := by decide +kernel
theorem dX7_pass_11 : decode cX7_pass 11 = .ok (.aload_n 0, 1) := by decide +kernel
theorem dX7_pass_12 : decode cX7_pass 12 = .ok (.getfield 22, 3) := by decide +kernel
theorem dX7_pass_15 : decode cX7_pass 15 = .ok (.aload_n 0, 1) := by decide +kernel
theorem dX7_pass_16 : decode cX7_pass 16 = .ok (.getfield 10, 3) := by decide +kernel
theorem dX7_pass_19 : decode cX7_pass 19 = .ok (.iload_n 1, 1) := by decide +kernel
theorem dX7_pass_20 : decode cX7_pass 20 = .ok (.invokevirtual 72, 3) := by decide +kernel
theorem dX7_pass_23 : decode cX7_pass 23 = .ok (.invokevirtual 45, 3) := by decide +kernel
theorem dX7_pass_26 : decode cX7_pass 26 = .ok (.ireturn, 1) := by decide +kernel
theorem dX7_ofField_0 : decode cX7_ofField 0 = .ok (.aload_n 0, 1) := by decide +kernel
theorem dX7_ofField_1 : decode cX7_ofField 1 = .ok (.getfield 10, 3) := by decide +kernel
theorem dX7_ofField_4 : decode cX7_ofField 4 = .ok (.iload_n 1, 1) := by decide +kernel
theorem dX7_ofField_5 : decode cX7_ofField 5 = .ok (.iload_n 2, 1) := by decide +kernel
theorem dX7_ofField_6 : decode cX7_ofField 6 = .ok (.invokevirtual 75, 3) := by decide +kernel
theorem dX7_ofField_9 : decode cX7_ofField 9 = .ok (.ireturn, 1) := by decide +kernel
theorem dX7_ofGrower_0 : decode cX7_ofGrower 0 = .ok (.aload_n 0, 1) := by decide +kernel
theorem dX7_ofGrower_1 : decode cX7_ofGrower 1 = .ok (.getfield 10, 3) := by decide +kernel
theorem dX7_ofGrower_4 : decode cX7_ofGrower 4 = .ok (.iload_n 1, 1) := by decide +kernel
theorem dX7_ofGrower_5 : decode cX7_ofGrower 5 = .ok (.iload_n 2, 1) := by decide +kernel
theorem dX7_ofGrower_6 : decode cX7_ofGrower 6 = .ok (.invokevirtual 78, 3) := by decide +kernel
theorem dX7_ofGrower_9 : decode cX7_ofGrower 9 = .ok (.ireturn, 1) := by decide +kernel
theorem dX7_load_0 : decode cX7_load 0 = .ok (.aload_n 0, 1) := by decide +kernel
theorem dX7_load_1 : decode cX7_load 1 = .ok (.getfield 10, 3) := by decide +kernel
theorem dX7_load_4 : decode cX7_load 4 = .ok (.getfield 81, 3) := by decide +kernel
theorem dX7_load_7 : decode cX7_load 7 = .ok (.iload_n 1, 1) := by decide +kernel
theorem dX7_load_8 : decode cX7_load 8 = .ok (.iload_n 2, 1) := by decide +kernel
theorem dX7_load_9 : decode cX7_load 9 = .ok (.invokevirtual 85, 3) := by decide +kernel
theorem dX7_load_12 : decode cX7_load 12 = .ok (.ireturn, 1) := by decide +kernel
theorem dX7_count_0 : decode cX7_count 0 = .ok (.iload_n 1, 1) := by decide +kernel
theorem dX7_count_1 : decode cX7_count 1 = .ok (.lookupswitch 43 #[(18, 27), (19, 35)], 27) := by decide +kernel
theorem dX7_count_28 : decode cX7_count 28 = .ok (.aload_n 0, 1) := by decide +kernel
theorem dX7_count_29 : decode cX7_count 29 = .ok (.getfield 33, 3) := by decide +kernel
theorem dX7_count_32 : decode cX7_count 32 = .ok (.getfield 90, 3) := by decide +kernel
theorem dX7_count_35 : decode cX7_count 35 = .ok (.ireturn, 1) := by decide +kernel
theorem dX7_count_36 : decode cX7_count 36 = .ok (.aload_n 0, 1) := by decide +kernel
theorem dX7_count_37 : decode cX7_count 37 = .ok (.getfield 22, 3) := by decide +kernel
theorem dX7_count_40 : decode cX7_count 40 = .ok (.getfield 94, 3) := by decide +kernel
theorem dX7_count_43 : decode cX7_count 43 = .ok (.ireturn, 1) := by decide +kernel
theorem dX7_count_44 : decode cX7_count 44 = .ok (.aload_n 0, 1) := by decide +kernel
theorem dX7_count_45 : decode cX7_count 45 = .ok (.getfield 10, 3) := by decide +kernel
theorem dX7_count_48 : decode cX7_count 48 = .ok (.iload_n 1, 1) := by decide +kernel
theorem dX7_count_49 : decode cX7_count 49 = .ok (.invokevirtual 97, 3) := by decide +kernel
theorem dX7_count_52 : decode cX7_count 52 = .ok (.ireturn, 1) := by decide +kernel
theorem dX7_fields_0 : decode cX7_fields 0 = .ok (.iload_n 1, 1) := by decide +kernel
theorem dX7_fields_1 : decode cX7_fields 1 = .ok (.iconst 0, 1) := by decide +kernel
theorem dX7_fields_2 : decode cX7_fields 2 = .ok (.iconst 3, 1) := by decide +kernel
theorem dX7_fields_3 : decode cX7_fields 3 = .ok (.invokestatic 100, 3) := by decide +kernel
theorem dX7_fields_6 : decode cX7_fields 6 = .ok (.ifCond .ne 7, 3) := by decide +kernel
theorem dX7_fields_9 : decode cX7_fields 9 = .ok (.ldc2_w 104, 3) := by decide +kernel
theorem dX7_fields_12 : decode cX7_fields 12 = .ok (.lreturn, 1) := by decide +kernel
theorem dX7_fields_13 : decode cX7_fields 13 = .ok (.aload_n 0, 1) := by decide +kernel
theorem dX7_fields_14 : decode cX7_fields 14 = .ok (.getfield 10, 3) := by decide +kernel
theorem dX7_fields_17 : decode cX7_fields 17 = .ok (.getfield 106, 3) := by decide +kernel
theorem dX7_fields_20 : decode cX7_fields 20 = .ok (.iload_n 1, 1) := by decide +kernel
theorem dX7_fields_21 : decode cX7_fields 21 = .ok (.aload_n 0, 1) := by decide +kernel
theorem dX7_fields_22 : decode cX7_fields 22 = .ok (.getfield 10, 3) := by decide +kernel
theorem dX7_fields_25 : decode cX7_fields 25 = .ok (.getfield 110, 3) := by decide +kernel
theorem dX7_fields_28 : decode cX7_fields 28 = .ok (.invokevirtual 113, 3) := by decide +kernel
theorem dX7_fields_31 : decode cX7_fields 31 = .ok (.lreturn, 1) := by decide +kernel
theorem dX7_next_0 : decode cX7_next 0 = .ok (.aload_n 0, 1) := by decide +kernel
theorem dX7_next_1 : decode cX7_next 1 = .ok (.getfield 10, 3) := by decide +kernel
theorem dX7_next_4 : decode cX7_next 4 = .ok (.invokevirtual 119, 3) := by decide +kernel
theorem dX7_next_7 : decode cX7_next 7 = .ok (.ireturn, 1) := by decide +kernel
theorem dX7_then_0 : decode cX7_then 0 = .ok (.iload_n 1, 1) := by decide +kernel
theorem dX7_then_1 : decode cX7_then 1 = .ok (.iconst 1, 1) := by decide +kernel
theorem dX7_then_2 : decode cX7_then 2 = .ok (.sipush 300, 3) := by decide +kernel
theorem dX7_then_5 : decode cX7_then 5 = .ok (.invokestatic 100, 3) := by decide +kernel
theorem dX7_then_8 : decode cX7_then 8 = .ok (.ifCond .eq 12, 3) := by decide +kernel
theorem dX7_then_11 : decode cX7_then 11 = .ok (.iload_n 2, 1) := by decide +kernel
theorem dX7_then_12 : decode cX7_then 12 = .ok (.iconst 0, 1) := by decide +kernel
theorem dX7_then_13 : decode cX7_then 13 = .ok (.iconst 2, 1) := by decide +kernel
theorem dX7_then_14 : decode cX7_then 14 = .ok (.invokestatic 100, 3) := by decide +kernel
theorem dX7_then_17 : decode cX7_then 17 = .ok (.ifCond .ne 6, 3) := by decide +kernel
theorem dX7_then_20 : decode cX7_then 20 = .ok (.bipush (-2), 2) := by decide +kernel
theorem dX7_then_22 : decode cX7_then 22 = .ok (.ireturn, 1) := by decide +kernel
theorem dX7_then_23 : decode cX7_then 23 = .ok (.aload_n 0, 1) := by decide +kernel
theorem dX7_then_24 : decode cX7_then 24 = .ok (.iload_n 1, 1) := by decide +kernel
theorem dX7_then_25 : decode cX7_then 25 = .ok (.iconst 0, 1) := by decide +kernel
theorem dX7_then_26 : decode cX7_then 26 = .ok (.invokevirtual 123, 3) := by decide +kernel
theorem dX7_then_29 : decode cX7_then 29 = .ok (.iload_n 2, 1) := by decide +kernel
theorem dX7_then_30 : decode cX7_then 30 = .ok (.lookupswitch 64 #[(0, 26), (1, 48)], 26) := by decide +kernel
theorem dX7_then_56 : decode cX7_then 56 = .ok (.aload_n 0, 1) := by decide +kernel
theorem dX7_then_57 : decode cX7_then 57 = .ok (.getfield 16, 3) := by decide +kernel
theorem dX7_then_60 : decode cX7_then 60 = .ok (.getfield 127, 3) := by decide +kernel
theorem dX7_then_63 : decode cX7_then 63 = .ok (.invokevirtual 131, 3) := by decide +kernel
theorem dX7_then_66 : decode cX7_then 66 = .ok (.aload_n 0, 1) := by decide +kernel
theorem dX7_then_67 : decode cX7_then 67 = .ok (.getfield 10, 3) := by decide +kernel
theorem dX7_then_70 : decode cX7_then 70 = .ok (.getfield 127, 3) := by decide +kernel
theorem dX7_then_73 : decode cX7_then 73 = .ok (.invokevirtual 131, 3) := by decide +kernel
theorem dX7_then_76 : decode cX7_then 76 = .ok (.isub, 1) := by decide +kernel
theorem dX7_then_77 : decode cX7_then 77 = .ok (.ireturn, 1) := by decide +kernel
theorem dX7_then_78 : decode cX7_then 78 = .ok (.aload_n 0, 1) := by decide +kernel
theorem dX7_then_79 : decode cX7_then 79 = .ok (.getfield 16, 3) := by decide +kernel
theorem dX7_then_82 : decode cX7_then 82 = .ok (.getfield 136, 3) := by decide +kernel
theorem dX7_then_85 : decode cX7_then 85 = .ok (.aload_n 0, 1) := by decide +kernel
theorem dX7_then_86 : decode cX7_then 86 = .ok (.getfield 10, 3) := by decide +kernel
theorem dX7_then_89 : decode cX7_then 89 = .ok (.getfield 136, 3) := by decide +kernel
theorem dX7_then_92 : decode cX7_then 92 = .ok (.isub, 1) := by decide +kernel
theorem dX7_then_93 : decode cX7_then 93 = .ok (.ireturn, 1) := by decide +kernel
theorem dX7_then_94 : decode cX7_then 94 = .ok (.aload_n 0, 1) := by decide +kernel
theorem dX7_then_95 : decode cX7_then 95 = .ok (.getfield 16, 3) := by decide +kernel
theorem dX7_then_98 : decode cX7_then 98 = .ok (.getfield 127, 3) := by decide +kernel
theorem dX7_then_101 : decode cX7_then 101 = .ok (.invokevirtual 139, 3) := by decide +kernel
theorem dX7_then_104 : decode cX7_then 104 = .ok (.aload_n 0, 1) := by decide +kernel
theorem dX7_then_105 : decode cX7_then 105 = .ok (.getfield 10, 3) := by decide +kernel
theorem dX7_then_108 : decode cX7_then 108 = .ok (.getfield 127, 3) := by decide +kernel
theorem dX7_then_111 : decode cX7_then 111 = .ok (.invokevirtual 139, 3) := by decide +kernel
theorem dX7_then_114 : decode cX7_then 114 = .ok (.isub, 1) := by decide +kernel
theorem dX7_then_115 : decode cX7_then 115 = .ok (.ireturn, 1) := by decide +kernel
theorem dX7_leastTrucks_0 : decode cX7_leastTrucks 0 = .ok (.iload_n 1, 1) := by decide +kernel
theorem dX7_leastTrucks_1 : decode cX7_leastTrucks 1 = .ok (.iconst 1, 1) := by decide +kernel
theorem dX7_leastTrucks_2 : decode cX7_leastTrucks 2 = .ok (.sipush 300, 3) := by decide +kernel
theorem dX7_leastTrucks_5 : decode cX7_leastTrucks 5 = .ok (.invokestatic 100, 3) := by decide +kernel
theorem dX7_leastTrucks_8 : decode cX7_leastTrucks 8 = .ok (.ifCond .ne 6, 3) := by decide +kernel
theorem dX7_leastTrucks_11 : decode cX7_leastTrucks 11 = .ok (.bipush (-2), 2) := by decide +kernel
theorem dX7_leastTrucks_13 : decode cX7_leastTrucks 13 = .ok (.ireturn, 1) := by decide +kernel
theorem dX7_leastTrucks_14 : decode cX7_leastTrucks 14 = .ok (.iconst 0, 1) := by decide +kernel
theorem dX7_leastTrucks_15 : decode cX7_leastTrucks 15 = .ok (.istore_n 2, 1) := by decide +kernel
theorem dX7_leastTrucks_16 : decode cX7_leastTrucks 16 = .ok (.iload_n 2, 1) := by decide +kernel
theorem dX7_leastTrucks_17 : decode cX7_leastTrucks 17 = .ok (.bipush 20, 2) := by decide +kernel
theorem dX7_leastTrucks_19 : decode cX7_leastTrucks 19 = .ok (.if_icmp .gt 20, 3) := by decide +kernel
theorem dX7_leastTrucks_22 : decode cX7_leastTrucks 22 = .ok (.aload_n 0, 1) := by decide +kernel
theorem dX7_leastTrucks_23 : decode cX7_leastTrucks 23 = .ok (.iload_n 2, 1) := by decide +kernel
theorem dX7_leastTrucks_24 : decode cX7_leastTrucks 24 = .ok (.iload_n 1, 1) := by decide +kernel
theorem dX7_leastTrucks_25 : decode cX7_leastTrucks 25 = .ok (.invokevirtual 142, 3) := by decide +kernel
theorem dX7_leastTrucks_28 : decode cX7_leastTrucks 28 = .ok (.ifCond .eq 5, 3) := by decide +kernel
theorem dX7_leastTrucks_31 : decode cX7_leastTrucks 31 = .ok (.iload_n 2, 1) := by decide +kernel
theorem dX7_leastTrucks_32 : decode cX7_leastTrucks 32 = .ok (.ireturn, 1) := by decide +kernel
theorem dX7_leastTrucks_33 : decode cX7_leastTrucks 33 = .ok (.iinc 2 1, 3) := by decide +kernel
theorem dX7_leastTrucks_36 : decode cX7_leastTrucks 36 = .ok (.goto (-20), 3) := by decide +kernel
theorem dX7_leastTrucks_39 : decode cX7_leastTrucks 39 = .ok (.bipush (-6), 2) := by decide +kernel
theorem dX7_leastTrucks_41 : decode cX7_leastTrucks 41 = .ok (.ireturn, 1) := by decide +kernel
theorem dX7_stopCosts_0 : decode cX7_stopCosts 0 = .ok (.iload_n 1, 1) := by decide +kernel
theorem dX7_stopCosts_1 : decode cX7_stopCosts 1 = .ok (.iconst 1, 1) := by decide +kernel
theorem dX7_stopCosts_2 : decode cX7_stopCosts 2 = .ok (.sipush 300, 3) := by decide +kernel
theorem dX7_stopCosts_5 : decode cX7_stopCosts 5 = .ok (.invokestatic 100, 3) := by decide +kernel
theorem dX7_stopCosts_8 : decode cX7_stopCosts 8 = .ok (.ifCond .eq 12, 3) := by decide +kernel
theorem dX7_stopCosts_11 : decode cX7_stopCosts 11 = .ok (.iload_n 2, 1) := by decide +kernel
theorem dX7_stopCosts_12 : decode cX7_stopCosts 12 = .ok (.iconst 0, 1) := by decide +kernel
theorem dX7_stopCosts_13 : decode cX7_stopCosts 13 = .ok (.iload_n 1, 1) := by decide +kernel
theorem dX7_stopCosts_14 : decode cX7_stopCosts 14 = .ok (.invokestatic 100, 3) := by decide +kernel
theorem dX7_stopCosts_17 : decode cX7_stopCosts 17 = .ok (.ifCond .ne 6, 3) := by decide +kernel
theorem dX7_stopCosts_20 : decode cX7_stopCosts 20 = .ok (.bipush (-2), 2) := by decide +kernel
theorem dX7_stopCosts_22 : decode cX7_stopCosts 22 = .ok (.ireturn, 1) := by decide +kernel
theorem dX7_stopCosts_23 : decode cX7_stopCosts 23 = .ok (.aload_n 0, 1) := by decide +kernel
theorem dX7_stopCosts_24 : decode cX7_stopCosts 24 = .ok (.iload_n 1, 1) := by decide +kernel
theorem dX7_stopCosts_25 : decode cX7_stopCosts 25 = .ok (.iconst 0, 1) := by decide +kernel
theorem dX7_stopCosts_26 : decode cX7_stopCosts 26 = .ok (.invokevirtual 123, 3) := by decide +kernel
theorem dX7_stopCosts_29 : decode cX7_stopCosts 29 = .ok (.aload_n 0, 1) := by decide +kernel
theorem dX7_stopCosts_30 : decode cX7_stopCosts 30 = .ok (.getfield 16, 3) := by decide +kernel
theorem dX7_stopCosts_33 : decode cX7_stopCosts 33 = .ok (.getfield 136, 3) := by decide +kernel
theorem dX7_stopCosts_36 : decode cX7_stopCosts 36 = .ok (.istore_n 3, 1) := by decide +kernel
theorem dX7_stopCosts_37 : decode cX7_stopCosts 37 = .ok (.aload_n 0, 1) := by decide +kernel
theorem dX7_stopCosts_38 : decode cX7_stopCosts 38 = .ok (.iload_n 1, 1) := by decide +kernel
theorem dX7_stopCosts_39 : decode cX7_stopCosts 39 = .ok (.iload_n 2, 1) := by decide +kernel
theorem dX7_stopCosts_40 : decode cX7_stopCosts 40 = .ok (.invokevirtual 123, 3) := by decide +kernel
theorem dX7_stopCosts_43 : decode cX7_stopCosts 43 = .ok (.iload_n 3, 1) := by decide +kernel
theorem dX7_stopCosts_44 : decode cX7_stopCosts 44 = .ok (.aload_n 0, 1) := by decide +kernel
theorem dX7_stopCosts_45 : decode cX7_stopCosts 45 = .ok (.getfield 16, 3) := by decide +kernel
theorem dX7_stopCosts_48 : decode cX7_stopCosts 48 = .ok (.getfield 136, 3) := by decide +kernel
theorem dX7_stopCosts_51 : decode cX7_stopCosts 51 = .ok (.isub, 1) := by decide +kernel
theorem dX7_stopCosts_52 : decode cX7_stopCosts 52 = .ok (.ldc 146, 2) := by decide +kernel
theorem dX7_stopCosts_54 : decode cX7_stopCosts 54 = .ok (.iadd, 1) := by decide +kernel
theorem dX7_stopCosts_55 : decode cX7_stopCosts 55 = .ok (.ireturn, 1) := by decide +kernel
theorem dX7_tryDays_0 : decode cX7_tryDays 0 = .ok (.aload_n 0, 1) := by decide +kernel
theorem dX7_tryDays_1 : decode cX7_tryDays 1 = .ok (.getfield 16, 3) := by decide +kernel
theorem dX7_tryDays_4 : decode cX7_tryDays 4 = .ok (.aload_n 0, 1) := by decide +kernel
theorem dX7_tryDays_5 : decode cX7_tryDays 5 = .ok (.getfield 10, 3) := by decide +kernel
theorem dX7_tryDays_8 : decode cX7_tryDays 8 = .ok (.invokevirtual 147, 3) := by decide +kernel
theorem dX7_tryDays_11 : decode cX7_tryDays 11 = .ok (.iconst 0, 1) := by decide +kernel
theorem dX7_tryDays_12 : decode cX7_tryDays 12 = .ok (.istore_n 3, 1) := by decide +kernel
theorem dX7_tryDays_13 : decode cX7_tryDays 13 = .ok (.iload_n 3, 1) := by decide +kernel
theorem dX7_tryDays_14 : decode cX7_tryDays 14 = .ok (.iload_n 1, 1) := by decide +kernel
theorem dX7_tryDays_15 : decode cX7_tryDays 15 = .ok (.if_icmp .ge 26, 3) := by decide +kernel
theorem dX7_tryDays_18 : decode cX7_tryDays 18 = .ok (.aload_n 0, 1) := by decide +kernel
theorem dX7_tryDays_19 : decode cX7_tryDays 19 = .ok (.getfield 16, 3) := by decide +kernel
theorem dX7_tryDays_22 : decode cX7_tryDays 22 = .ok (.iload_n 3, 1) := by decide +kernel
theorem dX7_tryDays_23 : decode cX7_tryDays 23 = .ok (.iload_n 2, 1) := by decide +kernel
theorem dX7_tryDays_24 : decode cX7_tryDays 24 = .ok (.if_icmp .ge 7, 3) := by decide +kernel
theorem dX7_tryDays_27 : decode cX7_tryDays 27 = .ok (.iconst 1, 1) := by decide +kernel
theorem dX7_tryDays_28 : decode cX7_tryDays 28 = .ok (.goto 4, 3) := by decide +kernel
theorem dX7_tryDays_31 : decode cX7_tryDays 31 = .ok (.iconst 0, 1) := by decide +kernel
theorem dX7_tryDays_32 : decode cX7_tryDays 32 = .ok (.invokevirtual 150, 3) := by decide +kernel
theorem dX7_tryDays_35 : decode cX7_tryDays 35 = .ok (.iinc 3 1, 3) := by decide +kernel
theorem dX7_tryDays_38 : decode cX7_tryDays 38 = .ok (.goto (-25), 3) := by decide +kernel
theorem dX7_tryDays_41 : decode cX7_tryDays 41 = .ok (.return_, 1) := by decide +kernel
theorem dX7_losesNothing_0 : decode cX7_losesNothing 0 = .ok (.aload_n 0, 1) := by decide +kernel
theorem dX7_losesNothing_1 : decode cX7_losesNothing 1 = .ok (.getfield 16, 3) := by decide +kernel
theorem dX7_losesNothing_4 : decode cX7_losesNothing 4 = .ok (.aload_n 0, 1) := by decide +kernel
theorem dX7_losesNothing_5 : decode cX7_losesNothing 5 = .ok (.getfield 10, 3) := by decide +kernel
theorem dX7_losesNothing_8 : decode cX7_losesNothing 8 = .ok (.invokevirtual 147, 3) := by decide +kernel
theorem dX7_losesNothing_11 : decode cX7_losesNothing 11 = .ok (.aload_n 0, 1) := by decide +kernel
theorem dX7_losesNothing_12 : decode cX7_losesNothing 12 = .ok (.getfield 16, 3) := by decide +kernel
theorem dX7_losesNothing_15 : decode cX7_losesNothing 15 = .ok (.getfield 154, 3) := by decide +kernel
theorem dX7_losesNothing_18 : decode cX7_losesNothing 18 = .ok (.iconst 0, 1) := by decide +kernel
theorem dX7_losesNothing_19 : decode cX7_losesNothing 19 = .ok (.iload_n 1, 1) := by decide +kernel
theorem dX7_losesNothing_20 : decode cX7_losesNothing 20 = .ok (.iastore, 1) := by decide +kernel
theorem dX7_losesNothing_21 : decode cX7_losesNothing 21 = .ok (.aload_n 0, 1) := by decide +kernel
theorem dX7_losesNothing_22 : decode cX7_losesNothing 22 = .ok (.getfield 10, 3) := by decide +kernel
theorem dX7_losesNothing_25 : decode cX7_losesNothing 25 = .ok (.getfield 127, 3) := by decide +kernel
theorem dX7_losesNothing_28 : decode cX7_losesNothing 28 = .ok (.invokevirtual 131, 3) := by decide +kernel
theorem dX7_losesNothing_31 : decode cX7_losesNothing 31 = .ok (.istore_n 3, 1) := by decide +kernel
theorem dX7_losesNothing_32 : decode cX7_losesNothing 32 = .ok (.iconst 0, 1) := by decide +kernel
theorem dX7_losesNothing_33 : decode cX7_losesNothing 33 = .ok (.istore 4, 2) := by decide +kernel
theorem dX7_losesNothing_35 : decode cX7_losesNothing 35 = .ok (.iload 4, 2) := by decide +kernel
theorem dX7_losesNothing_37 : decode cX7_losesNothing 37 = .ok (.iload_n 2, 1) := by decide +kernel
theorem dX7_losesNothing_38 : decode cX7_losesNothing 38 = .ok (.if_icmp .ge 33, 3) := by decide +kernel
theorem dX7_losesNothing_41 : decode cX7_losesNothing 41 = .ok (.aload_n 0, 1) := by decide +kernel
theorem dX7_losesNothing_42 : decode cX7_losesNothing 42 = .ok (.getfield 16, 3) := by decide +kernel
theorem dX7_losesNothing_45 : decode cX7_losesNothing 45 = .ok (.iconst 0, 1) := by decide +kernel
theorem dX7_losesNothing_46 : decode cX7_losesNothing 46 = .ok (.invokevirtual 150, 3) := by decide +kernel
theorem dX7_losesNothing_49 : decode cX7_losesNothing 49 = .ok (.aload_n 0, 1) := by decide +kernel
theorem dX7_losesNothing_50 : decode cX7_losesNothing 50 = .ok (.getfield 16, 3) := by decide +kernel
theorem dX7_losesNothing_53 : decode cX7_losesNothing 53 = .ok (.getfield 127, 3) := by decide +kernel
theorem dX7_losesNothing_56 : decode cX7_losesNothing 56 = .ok (.invokevirtual 131, 3) := by decide +kernel
theorem dX7_losesNothing_59 : decode cX7_losesNothing 59 = .ok (.iload_n 3, 1) := by decide +kernel
theorem dX7_losesNothing_60 : decode cX7_losesNothing 60 = .ok (.if_icmp .eq 5, 3) := by decide +kernel
theorem dX7_losesNothing_63 : decode cX7_losesNothing 63 = .ok (.iconst 0, 1) := by decide +kernel
theorem dX7_losesNothing_64 : decode cX7_losesNothing 64 = .ok (.ireturn, 1) := by decide +kernel
theorem dX7_losesNothing_65 : decode cX7_losesNothing 65 = .ok (.iinc 4 1, 3) := by decide +kernel
theorem dX7_losesNothing_68 : decode cX7_losesNothing 68 = .ok (.goto (-33), 3) := by decide +kernel
theorem dX7_losesNothing_71 : decode cX7_losesNothing 71 = .ok (.iconst 1, 1) := by decide +kernel
theorem dX7_losesNothing_72 : decode cX7_losesNothing 72 = .ok (.ireturn, 1) := by decide +kernel
theorem dX7_put_0 : decode cX7_put 0 = .ok (.aload_n 0, 1) := by decide +kernel
theorem dX7_put_1 : decode cX7_put 1 = .ok (.getfield 33, 3) := by decide +kernel
theorem dX7_put_4 : decode cX7_put 4 = .ok (.lload_n 1, 1) := by decide +kernel
theorem dX7_put_5 : decode cX7_put 5 = .ok (.invokevirtual 158, 3) := by decide +kernel
theorem dX7_put_8 : decode cX7_put 8 = .ok (.ireturn, 1) := by decide +kernel
theorem dX7_wipe_0 : decode cX7_wipe 0 = .ok (.aload_n 0, 1) := by decide +kernel
theorem dX7_wipe_1 : decode cX7_wipe 1 = .ok (.getfield 33, 3) := by decide +kernel
theorem dX7_wipe_4 : decode cX7_wipe 4 = .ok (.invokevirtual 162, 3) := by decide +kernel
theorem dX7_wipe_7 : decode cX7_wipe 7 = .ok (.ireturn, 1) := by decide +kernel
theorem dX7_fault_0 : decode cX7_fault 0 = .ok (.aload_n 0, 1) := by decide +kernel
theorem dX7_fault_1 : decode cX7_fault 1 = .ok (.getfield 33, 3) := by decide +kernel
theorem dX7_fault_4 : decode cX7_fault 4 = .ok (.invokevirtual 165, 3) := by decide +kernel
theorem dX7_fault_7 : decode cX7_fault 7 = .ok (.ireturn, 1) := by decide +kernel
theorem dX7_carryOut_0 : decode cX7_carryOut 0 = .ok (.aload_n 0, 1) := by decide +kernel
theorem dX7_carryOut_1 : decode cX7_carryOut 1 = .ok (.getfield 33, 3) := by decide +kernel
theorem dX7_carryOut_4 : decode cX7_carryOut 4 = .ok (.invokevirtual 165, 3) := by decide +kernel
theorem dX7_carryOut_7 : decode cX7_carryOut 7 = .ok (.bipush (-6), 2) := by decide +kernel
theorem dX7_carryOut_9 : decode cX7_carryOut 9 = .ok (.if_icmp .eq 6, 3) := by decide +kernel
theorem dX7_carryOut_12 : decode cX7_carryOut 12 = .ok (.bipush (-3), 2) := by decide +kernel
theorem dX7_carryOut_14 : decode cX7_carryOut 14 = .ok (.ireturn, 1) := by decide +kernel
theorem dX7_carryOut_15 : decode cX7_carryOut 15 = .ok (.aload_n 0, 1) := by decide +kernel
theorem dX7_carryOut_16 : decode cX7_carryOut 16 = .ok (.getfield 22, 3) := by decide +kernel
theorem dX7_carryOut_19 : decode cX7_carryOut 19 = .ok (.aload_n 0, 1) := by decide +kernel
theorem dX7_carryOut_20 : decode cX7_carryOut 20 = .ok (.getfield 10, 3) := by decide +kernel
theorem dX7_carryOut_23 : decode cX7_carryOut 23 = .ok (.invokevirtual 37, 3) := by decide +kernel
theorem dX7_carryOut_26 : decode cX7_carryOut 26 = .ok (.iconst 0, 1) := by decide +kernel
theorem dX7_carryOut_27 : decode cX7_carryOut 27 = .ok (.istore_n 1, 1) := by decide +kernel
theorem dX7_carryOut_28 : decode cX7_carryOut 28 = .ok (.aload_n 0, 1) := by decide +kernel
theorem dX7_carryOut_29 : decode cX7_carryOut 29 = .ok (.getfield 33, 3) := by decide +kernel
theorem dX7_carryOut_32 : decode cX7_carryOut 32 = .ok (.invokevirtual 168, 3) := by decide +kernel
theorem dX7_carryOut_35 : decode cX7_carryOut 35 = .ok (.iconst 0, 1) := by decide +kernel
theorem dX7_carryOut_36 : decode cX7_carryOut 36 = .ok (.istore_n 2, 1) := by decide +kernel
theorem dX7_carryOut_37 : decode cX7_carryOut 37 = .ok (.iload_n 2, 1) := by decide +kernel
theorem dX7_carryOut_38 : decode cX7_carryOut 38 = .ok (.bipush 80, 2) := by decide +kernel
theorem dX7_carryOut_40 : decode cX7_carryOut 40 = .ok (.if_icmp .ge 42, 3) := by decide +kernel
theorem dX7_carryOut_43 : decode cX7_carryOut 43 = .ok (.aload_n 0, 1) := by decide +kernel
theorem dX7_carryOut_44 : decode cX7_carryOut 44 = .ok (.getfield 33, 3) := by decide +kernel
theorem dX7_carryOut_47 : decode cX7_carryOut 47 = .ok (.invokevirtual 171, 3) := by decide +kernel
theorem dX7_carryOut_50 : decode cX7_carryOut 50 = .ok (.ifCond .eq 32, 3) := by decide +kernel
theorem dX7_carryOut_53 : decode cX7_carryOut 53 = .ok (.aload_n 0, 1) := by decide +kernel
theorem dX7_carryOut_54 : decode cX7_carryOut 54 = .ok (.invokevirtual 175, 3) := by decide +kernel
theorem dX7_carryOut_57 : decode cX7_carryOut 57 = .ok (.ifCond .ge 6, 3) := by decide +kernel
theorem dX7_carryOut_60 : decode cX7_carryOut 60 = .ok (.goto 22, 3) := by decide +kernel
theorem dX7_carryOut_63 : decode cX7_carryOut 63 = .ok (.iinc 1 1, 3) := by decide +kernel
theorem dX7_carryOut_66 : decode cX7_carryOut 66 = .ok (.aload_n 0, 1) := by decide +kernel
theorem dX7_carryOut_67 : decode cX7_carryOut 67 = .ok (.getfield 33, 3) := by decide +kernel
theorem dX7_carryOut_70 : decode cX7_carryOut 70 = .ok (.bipush 59, 2) := by decide +kernel
theorem dX7_carryOut_72 : decode cX7_carryOut 72 = .ok (.invokevirtual 178, 3) := by decide +kernel
theorem dX7_carryOut_75 : decode cX7_carryOut 75 = .ok (.pop, 1) := by decide +kernel
theorem dX7_carryOut_76 : decode cX7_carryOut 76 = .ok (.iinc 2 1, 3) := by decide +kernel
theorem dX7_carryOut_79 : decode cX7_carryOut 79 = .ok (.goto (-42), 3) := by decide +kernel
theorem dX7_carryOut_82 : decode cX7_carryOut 82 = .ok (.aload_n 0, 1) := by decide +kernel
theorem dX7_carryOut_83 : decode cX7_carryOut 83 = .ok (.getfield 33, 3) := by decide +kernel
theorem dX7_carryOut_86 : decode cX7_carryOut 86 = .ok (.invokevirtual 162, 3) := by decide +kernel
theorem dX7_carryOut_89 : decode cX7_carryOut 89 = .ok (.pop, 1) := by decide +kernel
theorem dX7_carryOut_90 : decode cX7_carryOut 90 = .ok (.aload_n 0, 1) := by decide +kernel
theorem dX7_carryOut_91 : decode cX7_carryOut 91 = .ok (.getfield 22, 3) := by decide +kernel
theorem dX7_carryOut_94 : decode cX7_carryOut 94 = .ok (.iload_n 1, 1) := by decide +kernel
theorem dX7_carryOut_95 : decode cX7_carryOut 95 = .ok (.invokevirtual 45, 3) := by decide +kernel
theorem dX7_carryOut_98 : decode cX7_carryOut 98 = .ok (.ireturn, 1) := by decide +kernel
theorem dX7_carryOutOrder_0 : decode cX7_carryOutOrder 0 = .ok (.aload_n 0, 1) := by decide +kernel
theorem dX7_carryOutOrder_1 : decode cX7_carryOutOrder 1 = .ok (.getfield 33, 3) := by decide +kernel
theorem dX7_carryOutOrder_4 : decode cX7_carryOutOrder 4 = .ok (.getfield 182, 3) := by decide +kernel
theorem dX7_carryOutOrder_7 : decode cX7_carryOutOrder 7 = .ok (.astore_n 1, 1) := by decide +kernel
theorem dX7_carryOutOrder_8 : decode cX7_carryOutOrder 8 = .ok (.aload_n 0, 1) := by decide +kernel
theorem dX7_carryOutOrder_9 : decode cX7_carryOutOrder 9 = .ok (.getfield 33, 3) := by decide +kernel
theorem dX7_carryOutOrder_12 : decode cX7_carryOutOrder 12 = .ok (.getfield 185, 3) := by decide +kernel
theorem dX7_carryOutOrder_15 : decode cX7_carryOutOrder 15 = .ok (.lookupswitch 109 #[(102, 41), (108, 75), (113, 61), (115, 92)], 41) := by decide +kernel
theorem dX7_carryOutOrder_56 : decode cX7_carryOutOrder 56 = .ok (.aload_n 0, 1) := by decide +kernel
theorem dX7_carryOutOrder_57 : decode cX7_carryOutOrder 57 = .ok (.getfield 10, 3) := by decide +kernel
theorem dX7_carryOutOrder_60 : decode cX7_carryOutOrder 60 = .ok (.aload_n 1, 1) := by decide +kernel
theorem dX7_carryOutOrder_61 : decode cX7_carryOutOrder 61 = .ok (.iconst 0, 1) := by decide +kernel
theorem dX7_carryOutOrder_62 : decode cX7_carryOutOrder 62 = .ok (.iaload, 1) := by decide +kernel
theorem dX7_carryOutOrder_63 : decode cX7_carryOutOrder 63 = .ok (.aload_n 1, 1) := by decide +kernel
theorem dX7_carryOutOrder_64 : decode cX7_carryOutOrder 64 = .ok (.iconst 1, 1) := by decide +kernel
theorem dX7_carryOutOrder_65 : decode cX7_carryOutOrder 65 = .ok (.iaload, 1) := by decide +kernel
theorem dX7_carryOutOrder_66 : decode cX7_carryOutOrder 66 = .ok (.aload_n 1, 1) := by decide +kernel
theorem dX7_carryOutOrder_67 : decode cX7_carryOutOrder 67 = .ok (.iconst 2, 1) := by decide +kernel
theorem dX7_carryOutOrder_68 : decode cX7_carryOutOrder 68 = .ok (.iaload, 1) := by decide +kernel
theorem dX7_carryOutOrder_69 : decode cX7_carryOutOrder 69 = .ok (.aload_n 1, 1) := by decide +kernel
theorem dX7_carryOutOrder_70 : decode cX7_carryOutOrder 70 = .ok (.iconst 3, 1) := by decide +kernel
theorem dX7_carryOutOrder_71 : decode cX7_carryOutOrder 71 = .ok (.iaload, 1) := by decide +kernel
theorem dX7_carryOutOrder_72 : decode cX7_carryOutOrder 72 = .ok (.invokevirtual 56, 3) := by decide +kernel
theorem dX7_carryOutOrder_75 : decode cX7_carryOutOrder 75 = .ok (.ireturn, 1) := by decide +kernel
theorem dX7_carryOutOrder_76 : decode cX7_carryOutOrder 76 = .ok (.aload_n 0, 1) := by decide +kernel
theorem dX7_carryOutOrder_77 : decode cX7_carryOutOrder 77 = .ok (.getfield 10, 3) := by decide +kernel
theorem dX7_carryOutOrder_80 : decode cX7_carryOutOrder 80 = .ok (.aload_n 1, 1) := by decide +kernel
theorem dX7_carryOutOrder_81 : decode cX7_carryOutOrder 81 = .ok (.iconst 0, 1) := by decide +kernel
theorem dX7_carryOutOrder_82 : decode cX7_carryOutOrder 82 = .ok (.iaload, 1) := by decide +kernel
theorem dX7_carryOutOrder_83 : decode cX7_carryOutOrder 83 = .ok (.aload_n 1, 1) := by decide +kernel
theorem dX7_carryOutOrder_84 : decode cX7_carryOutOrder 84 = .ok (.iconst 1, 1) := by decide +kernel
theorem dX7_carryOutOrder_85 : decode cX7_carryOutOrder 85 = .ok (.iaload, 1) := by decide +kernel
theorem dX7_carryOutOrder_86 : decode cX7_carryOutOrder 86 = .ok (.invokevirtual 49, 3) := by decide +kernel
theorem dX7_carryOutOrder_89 : decode cX7_carryOutOrder 89 = .ok (.ireturn, 1) := by decide +kernel
theorem dX7_carryOutOrder_90 : decode cX7_carryOutOrder 90 = .ok (.aload_n 0, 1) := by decide +kernel
theorem dX7_carryOutOrder_91 : decode cX7_carryOutOrder 91 = .ok (.getfield 10, 3) := by decide +kernel
theorem dX7_carryOutOrder_94 : decode cX7_carryOutOrder 94 = .ok (.aload_n 1, 1) := by decide +kernel
theorem dX7_carryOutOrder_95 : decode cX7_carryOutOrder 95 = .ok (.iconst 0, 1) := by decide +kernel
theorem dX7_carryOutOrder_96 : decode cX7_carryOutOrder 96 = .ok (.iaload, 1) := by decide +kernel
theorem dX7_carryOutOrder_97 : decode cX7_carryOutOrder 97 = .ok (.aload_n 1, 1) := by decide +kernel
theorem dX7_carryOutOrder_98 : decode cX7_carryOutOrder 98 = .ok (.iconst 1, 1) := by decide +kernel
theorem dX7_carryOutOrder_99 : decode cX7_carryOutOrder 99 = .ok (.iaload, 1) := by decide +kernel
theorem dX7_carryOutOrder_100 : decode cX7_carryOutOrder 100 = .ok (.aload_n 1, 1) := by decide +kernel
theorem dX7_carryOutOrder_101 : decode cX7_carryOutOrder 101 = .ok (.iconst 2, 1) := by decide +kernel
theorem dX7_carryOutOrder_102 : decode cX7_carryOutOrder 102 = .ok (.iaload, 1) := by decide +kernel
theorem dX7_carryOutOrder_103 : decode cX7_carryOutOrder 103 = .ok (.invokevirtual 52, 3) := by decide +kernel
theorem dX7_carryOutOrder_106 : decode cX7_carryOutOrder 106 = .ok (.ireturn, 1) := by decide +kernel
theorem dX7_carryOutOrder_107 : decode cX7_carryOutOrder 107 = .ok (.aload_n 0, 1) := by decide +kernel
theorem dX7_carryOutOrder_108 : decode cX7_carryOutOrder 108 = .ok (.getfield 10, 3) := by decide +kernel
theorem dX7_carryOutOrder_111 : decode cX7_carryOutOrder 111 = .ok (.getfield 60, 3) := by decide +kernel
theorem dX7_carryOutOrder_114 : decode cX7_carryOutOrder 114 = .ok (.aload_n 1, 1) := by decide +kernel
theorem dX7_carryOutOrder_115 : decode cX7_carryOutOrder 115 = .ok (.iconst 0, 1) := by decide +kernel
theorem dX7_carryOutOrder_116 : decode cX7_carryOutOrder 116 = .ok (.iaload, 1) := by decide +kernel
theorem dX7_carryOutOrder_117 : decode cX7_carryOutOrder 117 = .ok (.aload_n 1, 1) := by decide +kernel
theorem dX7_carryOutOrder_118 : decode cX7_carryOutOrder 118 = .ok (.iconst 1, 1) := by decide +kernel
theorem dX7_carryOutOrder_119 : decode cX7_carryOutOrder 119 = .ok (.iaload, 1) := by decide +kernel
theorem dX7_carryOutOrder_120 : decode cX7_carryOutOrder 120 = .ok (.invokevirtual 64, 3) := by decide +kernel
theorem dX7_carryOutOrder_123 : decode cX7_carryOutOrder 123 = .ok (.ireturn, 1) := by decide +kernel
theorem dX7_carryOutOrder_124 : decode cX7_carryOutOrder 124 = .ok (.aload_n 0, 1) := by decide +kernel
theorem dX7_carryOutOrder_125 : decode cX7_carryOutOrder 125 = .ok (.getfield 10, 3) := by decide +kernel
theorem dX7_carryOutOrder_128 : decode cX7_carryOutOrder 128 = .ok (.aload_n 1, 1) := by decide +kernel
theorem dX7_carryOutOrder_129 : decode cX7_carryOutOrder 129 = .ok (.iconst 0, 1) := by decide +kernel
theorem dX7_carryOutOrder_130 : decode cX7_carryOutOrder 130 = .ok (.iaload, 1) := by decide +kernel
theorem dX7_carryOutOrder_131 : decode cX7_carryOutOrder 131 = .ok (.invokevirtual 72, 3) := by decide +kernel
theorem dX7_carryOutOrder_134 : decode cX7_carryOutOrder 134 = .ok (.ireturn, 1) := by decide +kernel
theorem dX7_undo_0 : decode cX7_undo 0 = .ok (.aload_n 0, 1) := by decide +kernel
theorem dX7_undo_1 : decode cX7_undo 1 = .ok (.getfield 22, 3) := by decide +kernel
theorem dX7_undo_4 : decode cX7_undo 4 = .ok (.getfield 94, 3) := by decide +kernel
theorem dX7_undo_7 : decode cX7_undo 7 = .ok (.ifCond .ne 6, 3) := by decide +kernel
theorem dX7_undo_10 : decode cX7_undo 10 = .ok (.bipush (-5), 2) := by decide +kernel
theorem dX7_undo_12 : decode cX7_undo 12 = .ok (.ireturn, 1) := by decide +kernel
theorem dX7_undo_13 : decode cX7_undo 13 = .ok (.aload_n 0, 1) := by decide +kernel
theorem dX7_undo_14 : decode cX7_undo 14 = .ok (.getfield 22, 3) := by decide +kernel
theorem dX7_undo_17 : decode cX7_undo 17 = .ok (.aload_n 0, 1) := by decide +kernel
theorem dX7_undo_18 : decode cX7_undo 18 = .ok (.getfield 10, 3) := by decide +kernel
theorem dX7_undo_21 : decode cX7_undo 21 = .ok (.invokevirtual 189, 3) := by decide +kernel
theorem dX7_undo_24 : decode cX7_undo 24 = .ok (.aload_n 0, 1) := by decide +kernel
theorem dX7_undo_25 : decode cX7_undo 25 = .ok (.getfield 22, 3) := by decide +kernel
theorem dX7_undo_28 : decode cX7_undo 28 = .ok (.getfield 94, 3) := by decide +kernel
theorem dX7_undo_31 : decode cX7_undo 31 = .ok (.ireturn, 1) := by decide +kernel
theorem dX7_save_0 : decode cX7_save 0 = .ok (.iload_n 1, 1) := by decide +kernel
theorem dX7_save_1 : decode cX7_save 1 = .ok (.iconst 0, 1) := by decide +kernel
theorem dX7_save_2 : decode cX7_save 2 = .ok (.iconst 1, 1) := by decide +kernel
theorem dX7_save_3 : decode cX7_save 3 = .ok (.invokestatic 100, 3) := by decide +kernel
theorem dX7_save_6 : decode cX7_save 6 = .ok (.ifCond .ne 6, 3) := by decide +kernel
theorem dX7_save_9 : decode cX7_save 9 = .ok (.bipush (-2), 2) := by decide +kernel
theorem dX7_save_11 : decode cX7_save 11 = .ok (.ireturn, 1) := by decide +kernel
theorem dX7_save_12 : decode cX7_save 12 = .ok (.aload_n 0, 1) := by decide +kernel
theorem dX7_save_13 : decode cX7_save 13 = .ok (.getfield 26, 3) := by decide +kernel
theorem dX7_save_16 : decode cX7_save 16 = .ok (.iload_n 1, 1) := by decide +kernel
theorem dX7_save_17 : decode cX7_save 17 = .ok (.aaload, 1) := by decide +kernel
theorem dX7_save_18 : decode cX7_save 18 = .ok (.astore_n 2, 1) := by decide +kernel
theorem dX7_save_19 : decode cX7_save 19 = .ok (.aload_n 2, 1) := by decide +kernel
theorem dX7_save_20 : decode cX7_save 20 = .ok (.ifnonnull 18, 3) := by decide +kernel
theorem dX7_save_23 : decode cX7_save 23 = .ok (.new 7, 3) := by decide +kernel
theorem dX7_save_26 : decode cX7_save 26 = .ok (.dup, 1) := by decide +kernel
theorem dX7_save_27 : decode cX7_save 27 = .ok (.invokespecial 9, 3) := by decide +kernel
theorem dX7_save_30 : decode cX7_save 30 = .ok (.astore_n 2, 1) := by decide +kernel
theorem dX7_save_31 : decode cX7_save 31 = .ok (.aload_n 0, 1) := by decide +kernel
theorem dX7_save_32 : decode cX7_save 32 = .ok (.getfield 26, 3) := by decide +kernel
theorem dX7_save_35 : decode cX7_save 35 = .ok (.iload_n 1, 1) := by decide +kernel
theorem dX7_save_36 : decode cX7_save 36 = .ok (.aload_n 2, 1) := by decide +kernel
theorem dX7_save_37 : decode cX7_save 37 = .ok (.aastore, 1) := by decide +kernel
theorem dX7_save_38 : decode cX7_save 38 = .ok (.aload_n 2, 1) := by decide +kernel
theorem dX7_save_39 : decode cX7_save 39 = .ok (.aload_n 0, 1) := by decide +kernel
theorem dX7_save_40 : decode cX7_save 40 = .ok (.getfield 10, 3) := by decide +kernel
theorem dX7_save_43 : decode cX7_save 43 = .ok (.invokevirtual 147, 3) := by decide +kernel
theorem dX7_save_46 : decode cX7_save 46 = .ok (.aload_n 0, 1) := by decide +kernel
theorem dX7_save_47 : decode cX7_save 47 = .ok (.getfield 10, 3) := by decide +kernel
theorem dX7_save_50 : decode cX7_save 50 = .ok (.getfield 106, 3) := by decide +kernel
theorem dX7_save_53 : decode cX7_save 53 = .ok (.getfield 192, 3) := by decide +kernel
theorem dX7_save_56 : decode cX7_save 56 = .ok (.ireturn, 1) := by decide +kernel
theorem dX7_restore_0 : decode cX7_restore 0 = .ok (.iload_n 1, 1) := by decide +kernel
theorem dX7_restore_1 : decode cX7_restore 1 = .ok (.iconst 0, 1) := by decide +kernel
theorem dX7_restore_2 : decode cX7_restore 2 = .ok (.iconst 1, 1) := by decide +kernel
theorem dX7_restore_3 : decode cX7_restore 3 = .ok (.invokestatic 100, 3) := by decide +kernel
theorem dX7_restore_6 : decode cX7_restore 6 = .ok (.ifCond .ne 6, 3) := by decide +kernel
theorem dX7_restore_9 : decode cX7_restore 9 = .ok (.bipush (-2), 2) := by decide +kernel
theorem dX7_restore_11 : decode cX7_restore 11 = .ok (.ireturn, 1) := by decide +kernel
theorem dX7_restore_12 : decode cX7_restore 12 = .ok (.aload_n 0, 1) := by decide +kernel
theorem dX7_restore_13 : decode cX7_restore 13 = .ok (.getfield 26, 3) := by decide +kernel
theorem dX7_restore_16 : decode cX7_restore 16 = .ok (.iload_n 1, 1) := by decide +kernel
theorem dX7_restore_17 : decode cX7_restore 17 = .ok (.aaload, 1) := by decide +kernel
theorem dX7_restore_18 : decode cX7_restore 18 = .ok (.astore_n 2, 1) := by decide +kernel
theorem dX7_restore_19 : decode cX7_restore 19 = .ok (.aload_n 2, 1) := by decide +kernel
theorem dX7_restore_20 : decode cX7_restore 20 = .ok (.ifnonnull 6, 3) := by decide +kernel
theorem dX7_restore_23 : decode cX7_restore 23 = .ok (.bipush (-5), 2) := by decide +kernel
theorem dX7_restore_25 : decode cX7_restore 25 = .ok (.ireturn, 1) := by decide +kernel
theorem dX7_restore_26 : decode cX7_restore 26 = .ok (.aload_n 0, 1) := by decide +kernel
theorem dX7_restore_27 : decode cX7_restore 27 = .ok (.getfield 22, 3) := by decide +kernel
theorem dX7_restore_30 : decode cX7_restore 30 = .ok (.aload_n 0, 1) := by decide +kernel
theorem dX7_restore_31 : decode cX7_restore 31 = .ok (.getfield 10, 3) := by decide +kernel
theorem dX7_restore_34 : decode cX7_restore 34 = .ok (.invokevirtual 37, 3) := by decide +kernel
theorem dX7_restore_37 : decode cX7_restore 37 = .ok (.aload_n 0, 1) := by decide +kernel
theorem dX7_restore_38 : decode cX7_restore 38 = .ok (.getfield 10, 3) := by decide +kernel
theorem dX7_restore_41 : decode cX7_restore 41 = .ok (.aload_n 2, 1) := by decide +kernel
theorem dX7_restore_42 : decode cX7_restore 42 = .ok (.invokevirtual 147, 3) := by decide +kernel
theorem dX7_restore_45 : decode cX7_restore 45 = .ok (.aload_n 0, 1) := by decide +kernel
theorem dX7_restore_46 : decode cX7_restore 46 = .ok (.getfield 22, 3) := by decide +kernel
theorem dX7_restore_49 : decode cX7_restore 49 = .ok (.aload_n 0, 1) := by decide +kernel
theorem dX7_restore_50 : decode cX7_restore 50 = .ok (.getfield 10, 3) := by decide +kernel
theorem dX7_restore_53 : decode cX7_restore 53 = .ok (.getfield 106, 3) := by decide +kernel
theorem dX7_restore_56 : decode cX7_restore 56 = .ok (.getfield 192, 3) := by decide +kernel
theorem dX7_restore_59 : decode cX7_restore 59 = .ok (.invokevirtual 45, 3) := by decide +kernel
theorem dX7_restore_62 : decode cX7_restore 62 = .ok (.ireturn, 1) := by decide +kernel
theorem dX7_isWithin_0 : decode cX7_isWithin 0 = .ok (.iload_n 0, 1) := by decide +kernel
theorem dX7_isWithin_1 : decode cX7_isWithin 1 = .ok (.iload_n 1, 1) := by decide +kernel
theorem dX7_isWithin_2 : decode cX7_isWithin 2 = .ok (.if_icmp .lt 12, 3) := by decide +kernel
theorem dX7_isWithin_5 : decode cX7_isWithin 5 = .ok (.iload_n 0, 1) := by decide +kernel
theorem dX7_isWithin_6 : decode cX7_isWithin 6 = .ok (.iload_n 2, 1) := by decide +kernel
theorem dX7_isWithin_7 : decode cX7_isWithin 7 = .ok (.if_icmp .gt 7, 3) := by decide +kernel
theorem dX7_isWithin_10 : decode cX7_isWithin 10 = .ok (.iconst 1, 1) := by decide +kernel
theorem dX7_isWithin_11 : decode cX7_isWithin 11 = .ok (.goto 4, 3) := by decide +kernel
theorem dX7_isWithin_14 : decode cX7_isWithin 14 = .ok (.iconst 0, 1) := by decide +kernel
theorem dX7_isWithin_15 : decode cX7_isWithin 15 = .ok (.ireturn, 1) := by decide +kernel
theorem dX7_isGrower_0 : decode cX7_isGrower 0 = .ok (.iload_n 0, 1) := by decide +kernel
theorem dX7_isGrower_1 : decode cX7_isGrower 1 = .ok (.iconst 0, 1) := by decide +kernel
theorem dX7_isGrower_2 : decode cX7_isGrower 2 = .ok (.iconst 5, 1) := by decide +kernel
theorem dX7_isGrower_3 : decode cX7_isGrower 3 = .ok (.invokestatic 100, 3) := by decide +kernel
theorem dX7_isGrower_6 : decode cX7_isGrower 6 = .ok (.ireturn, 1) := by decide +kernel
theorem dX7_copyRow_0 : decode cX7_copyRow 0 = .ok (.aload_n 0, 1) := by decide +kernel
theorem dX7_copyRow_1 : decode cX7_copyRow 1 = .ok (.iconst 0, 1) := by decide +kernel
theorem dX7_copyRow_2 : decode cX7_copyRow 2 = .ok (.aload_n 1, 1) := by decide +kernel
theorem dX7_copyRow_3 : decode cX7_copyRow 3 = .ok (.iconst 0, 1) := by decide +kernel
theorem dX7_copyRow_4 : decode cX7_copyRow 4 = .ok (.iload_n 2, 1) := by decide +kernel
theorem dX7_copyRow_5 : decode cX7_copyRow 5 = .ok (.aload_n 0, 1) := by decide +kernel
theorem dX7_copyRow_6 : decode cX7_copyRow 6 = .ok (.arraylength, 1) := by decide +kernel
theorem dX7_copyRow_7 : decode cX7_copyRow 7 = .ok (.aload_n 1, 1) := by decide +kernel
theorem dX7_copyRow_8 : decode cX7_copyRow 8 = .ok (.arraylength, 1) := by decide +kernel
theorem dX7_copyRow_9 : decode cX7_copyRow 9 = .ok (.invokestatic 195, 3) := by decide +kernel
theorem dX7_copyRow_12 : decode cX7_copyRow 12 = .ok (.invokestatic 195, 3) := by decide +kernel
theorem dX7_copyRow_15 : decode cX7_copyRow 15 = .ok (.invokestatic 200, 3) := by decide +kernel
theorem dX7_copyRow_18 : decode cX7_copyRow 18 = .ok (.return_, 1) := by decide +kernel
theorem dX7_sumOf_0 : decode cX7_sumOf 0 = .ok (.iconst 0, 1) := by decide +kernel
theorem dX7_sumOf_1 : decode cX7_sumOf 1 = .ok (.istore_n 1, 1) := by decide +kernel
theorem dX7_sumOf_2 : decode cX7_sumOf 2 = .ok (.aload_n 0, 1) := by decide +kernel
theorem dX7_sumOf_3 : decode cX7_sumOf 3 = .ok (.astore_n 2, 1) := by decide +kernel
theorem dX7_sumOf_4 : decode cX7_sumOf 4 = .ok (.aload_n 2, 1) := by decide +kernel
theorem dX7_sumOf_5 : decode cX7_sumOf 5 = .ok (.arraylength, 1) := by decide +kernel
theorem dX7_sumOf_6 : decode cX7_sumOf 6 = .ok (.istore_n 3, 1) := by decide +kernel
theorem dX7_sumOf_7 : decode cX7_sumOf 7 = .ok (.iconst 0, 1) := by decide +kernel
theorem dX7_sumOf_8 : decode cX7_sumOf 8 = .ok (.istore 4, 2) := by decide +kernel
theorem dX7_sumOf_10 : decode cX7_sumOf 10 = .ok (.iload 4, 2) := by decide +kernel
theorem dX7_sumOf_12 : decode cX7_sumOf 12 = .ok (.iload_n 3, 1) := by decide +kernel
theorem dX7_sumOf_13 : decode cX7_sumOf 13 = .ok (.if_icmp .ge 20, 3) := by decide +kernel
theorem dX7_sumOf_16 : decode cX7_sumOf 16 = .ok (.aload_n 2, 1) := by decide +kernel
theorem dX7_sumOf_17 : decode cX7_sumOf 17 = .ok (.iload 4, 2) := by decide +kernel
theorem dX7_sumOf_19 : decode cX7_sumOf 19 = .ok (.iaload, 1) := by decide +kernel
theorem dX7_sumOf_20 : decode cX7_sumOf 20 = .ok (.istore 5, 2) := by decide +kernel
theorem dX7_sumOf_22 : decode cX7_sumOf 22 = .ok (.iload_n 1, 1) := by decide +kernel
theorem dX7_sumOf_23 : decode cX7_sumOf 23 = .ok (.iload 5, 2) := by decide +kernel
theorem dX7_sumOf_25 : decode cX7_sumOf 25 = .ok (.iadd, 1) := by decide +kernel
theorem dX7_sumOf_26 : decode cX7_sumOf 26 = .ok (.istore_n 1, 1) := by decide +kernel
theorem dX7_sumOf_27 : decode cX7_sumOf 27 = .ok (.iinc 4 1, 3) := by decide +kernel
theorem dX7_sumOf_30 : decode cX7_sumOf 30 = .ok (.goto (-20), 3) := by decide +kernel
theorem dX7_sumOf_33 : decode cX7_sumOf 33 = .ok (.iload_n 1, 1) := by decide +kernel
theorem dX7_sumOf_34 : decode cX7_sumOf 34 = .ok (.ireturn, 1) := by decide +kernel
theorem dX8_init_0 : decode cX8_init 0 = .ok (.aload_n 0, 1) := by decide +kernel
theorem dX8_init_1 : decode cX8_init 1 = .ok (.invokespecial 1, 3) := by decide +kernel
theorem dX8_init_4 : decode cX8_init 4 = .ok (.aload_n 0, 1) := by decide +kernel
theorem dX8_init_5 : decode cX8_init 5 = .ok (.sipush 1497, 3) := by decide +kernel
theorem dX8_init_8 : decode cX8_init 8 = .ok (.newarray .int, 2) := by decide +kernel
theorem dX8_init_10 : decode cX8_init 10 = .ok (.putfield 7, 3) := by decide +kernel
theorem dX8_init_13 : decode cX8_init 13 = .ok (.aload_n 0, 1) := by decide +kernel
theorem dX8_init_14 : decode cX8_init 14 = .ok (.sipush 1497, 3) := by decide +kernel
theorem dX8_init_17 : decode cX8_init 17 = .ok (.newarray .int, 2) := by decide +kernel
theorem dX8_init_19 : decode cX8_init 19 = .ok (.putfield 13, 3) := by decide +kernel
theorem dX8_init_22 : decode cX8_init 22 = .ok (.aload_n 0, 1) := by decide +kernel
theorem dX8_init_23 : decode cX8_init 23 = .ok (.sipush 8982, 3) := by decide +kernel
theorem dX8_init_26 : decode cX8_init 26 = .ok (.newarray .int, 2) := by decide +kernel
theorem dX8_init_28 : decode cX8_init 28 = .ok (.putfield 16, 3) := by decide +kernel
theorem dX8_init_31 : decode cX8_init 31 = .ok (.aload_n 0, 1) := by decide +kernel
theorem dX8_init_32 : decode cX8_init 32 = .ok (.sipush 2994, 3) := by decide +kernel
theorem dX8_init_35 : decode cX8_init 35 = .ok (.newarray .int, 2) := by decide +kernel
theorem dX8_init_37 : decode cX8_init 37 = .ok (.putfield 19, 3) := by decide +kernel
theorem dX8_init_40 : decode cX8_init 40 = .ok (.aload_n 0, 1) := by decide +kernel
theorem dX8_init_41 : decode cX8_init 41 = .ok (.iconst 2, 1) := by decide +kernel
theorem dX8_init_42 : decode cX8_init 42 = .ok (.newarray .boolean, 2) := by decide +kernel
theorem dX8_init_44 : decode cX8_init 44 = .ok (.putfield 22, 3) := by decide +kernel
theorem dX8_init_47 : decode cX8_init 47 = .ok (.aload_n 0, 1) := by decide +kernel
theorem dX8_init_48 : decode cX8_init 48 = .ok (.bipush 80, 2) := by decide +kernel
theorem dX8_init_50 : decode cX8_init 50 = .ok (.newarray .int, 2) := by decide +kernel
theorem dX8_init_52 : decode cX8_init 52 = .ok (.putfield 26, 3) := by decide +kernel
theorem dX8_init_55 : decode cX8_init 55 = .ok (.aload_n 0, 1) := by decide +kernel
theorem dX8_init_56 : decode cX8_init 56 = .ok (.sipush 140, 3) := by decide +kernel
theorem dX8_init_59 : decode cX8_init 59 = .ok (.newarray .int, 2) := by decide +kernel
theorem dX8_init_61 : decode cX8_init 61 = .ok (.putfield 29, 3) := by decide +kernel
theorem dX8_init_64 : decode cX8_init 64 = .ok (.aload_n 0, 1) := by decide +kernel
theorem dX8_init_65 : decode cX8_init 65 = .ok (.getfield 7, 3) := by decide +kernel
theorem dX8_init_68 : decode cX8_init 68 = .ok (.iconst 3, 1) := by decide +kernel
theorem dX8_init_69 : decode cX8_init 69 = .ok (.iconst 4, 1) := by decide +kernel
theorem dX8_init_70 : decode cX8_init 70 = .ok (.iastore, 1) := by decide +kernel
theorem dX8_init_71 : decode cX8_init 71 = .ok (.aload_n 0, 1) := by decide +kernel
theorem dX8_init_72 : decode cX8_init 72 = .ok (.getfield 7, 3) := by decide +kernel
theorem dX8_init_75 : decode cX8_init 75 = .ok (.iconst 4, 1) := by decide +kernel
theorem dX8_init_76 : decode cX8_init 76 = .ok (.bipush 10, 2) := by decide +kernel
theorem dX8_init_78 : decode cX8_init 78 = .ok (.iastore, 1) := by decide +kernel
theorem dX8_init_79 : decode cX8_init 79 = .ok (.aload_n 0, 1) := by decide +kernel
theorem dX8_init_80 : decode cX8_init 80 = .ok (.getfield 7, 3) := by decide +kernel
theorem dX8_init_83 : decode cX8_init 83 = .ok (.iconst 5, 1) := by decide +kernel
theorem dX8_init_84 : decode cX8_init 84 = .ok (.bipush 60, 2) := by decide +kernel
theorem dX8_init_86 : decode cX8_init 86 = .ok (.iastore, 1) := by decide +kernel
theorem dX8_init_87 : decode cX8_init 87 = .ok (.aload_n 0, 1) := by decide +kernel
theorem dX8_init_88 : decode cX8_init 88 = .ok (.getfield 7, 3) := by decide +kernel
theorem dX8_init_91 : decode cX8_init 91 = .ok (.bipush 6, 2) := by decide +kernel
theorem dX8_init_93 : decode cX8_init 93 = .ok (.bipush 100, 2) := by decide +kernel
theorem dX8_init_95 : decode cX8_init 95 = .ok (.iastore, 1) := by decide +kernel
theorem dX8_init_96 : decode cX8_init 96 = .ok (.aload_n 0, 1) := by decide +kernel
theorem dX8_init_97 : decode cX8_init 97 = .ok (.getfield 7, 3) := by decide +kernel
theorem dX8_init_100 : decode cX8_init 100 = .ok (.bipush 7, 2) := by decide +kernel
theorem dX8_init_102 : decode cX8_init 102 = .ok (.bipush 8, 2) := by decide +kernel
theorem dX8_init_104 : decode cX8_init 104 = .ok (.iastore, 1) := by decide +kernel
theorem dX8_init_105 : decode cX8_init 105 = .ok (.aload_n 0, 1) := by decide +kernel
theorem dX8_init_106 : decode cX8_init 106 = .ok (.getfield 7, 3) := by decide +kernel
theorem dX8_init_109 : decode cX8_init 109 = .ok (.bipush 8, 2) := by decide +kernel
theorem dX8_init_111 : decode cX8_init 111 = .ok (.iconst 5, 1) := by decide +kernel
theorem dX8_init_112 : decode cX8_init 112 = .ok (.iastore, 1) := by decide +kernel
theorem dX8_init_113 : decode cX8_init 113 = .ok (.aload_n 0, 1) := by decide +kernel
theorem dX8_init_114 : decode cX8_init 114 = .ok (.getfield 7, 3) := by decide +kernel
theorem dX8_init_117 : decode cX8_init 117 = .ok (.bipush 9, 2) := by decide +kernel
theorem dX8_init_119 : decode cX8_init 119 = .ok (.bipush 30, 2) := by decide +kernel
theorem dX8_init_121 : decode cX8_init 121 = .ok (.iastore, 1) := by decide +kernel
theorem dX8_init_122 : decode cX8_init 122 = .ok (.iconst 0, 1) := by decide +kernel
theorem dX8_init_123 : decode cX8_init 123 = .ok (.istore_n 1, 1) := by decide +kernel
theorem dX8_init_124 : decode cX8_init 124 = .ok (.iload_n 1, 1) := by decide +kernel
theorem dX8_init_125 : decode cX8_init 125 = .ok (.bipush 6, 2) := by decide +kernel
theorem dX8_init_127 : decode cX8_init 127 = .ok (.if_icmp .ge 20, 3) := by decide +kernel
theorem dX8_init_130 : decode cX8_init 130 = .ok (.aload_n 0, 1) := by decide +kernel
theorem dX8_init_131 : decode cX8_init 131 = .ok (.getfield 7, 3) := by decide +kernel
theorem dX8_init_134 : decode cX8_init 134 = .ok (.bipush 10, 2) := by decide +kernel
theorem dX8_init_136 : decode cX8_init 136 = .ok (.iload_n 1, 1) := by decide +kernel
theorem dX8_init_137 : decode cX8_init 137 = .ok (.iadd, 1) := by decide +kernel
theorem dX8_init_138 : decode cX8_init 138 = .ok (.bipush 100, 2) := by decide +kernel
theorem dX8_init_140 : decode cX8_init 140 = .ok (.iastore, 1) := by decide +kernel
theorem dX8_init_141 : decode cX8_init 141 = .ok (.iinc 1 1, 3) := by decide +kernel
theorem dX8_init_144 : decode cX8_init 144 = .ok (.goto (-20), 3) := by decide +kernel
theorem dX8_init_147 : decode cX8_init 147 = .ok (.return_, 1) := by decide +kernel
theorem dX8_in_0 : decode cX8_in 0 = .ok (.iload_n 0, 1) := by decide +kernel
theorem dX8_in_1 : decode cX8_in 1 = .ok (.iload_n 1, 1) := by decide +kernel
theorem dX8_in_2 : decode cX8_in 2 = .ok (.if_icmp .lt 12, 3) := by decide +kernel
theorem dX8_in_5 : decode cX8_in 5 = .ok (.iload_n 0, 1) := by decide +kernel
theorem dX8_in_6 : decode cX8_in 6 = .ok (.iload_n 2, 1) := by decide +kernel
theorem dX8_in_7 : decode cX8_in 7 = .ok (.if_icmp .gt 7, 3) := by decide +kernel
theorem dX8_in_10 : decode cX8_in 10 = .ok (.iconst 1, 1) := by decide +kernel
theorem dX8_in_11 : decode cX8_in 11 = .ok (.goto 4, 3) := by decide +kernel
theorem dX8_in_14 : decode cX8_in 14 = .ok (.iconst 0, 1) := by decide +kernel
theorem dX8_in_15 : decode cX8_in 15 = .ok (.ireturn, 1) := by decide +kernel
theorem dX8_of_0 : decode cX8_of 0 = .ok (.aload_n 0, 1) := by decide +kernel
theorem dX8_of_1 : decode cX8_of 1 = .ok (.bipush 56, 2) := by decide +kernel
theorem dX8_of_3 : decode cX8_of 3 = .ok (.bipush 8, 2) := by decide +kernel
theorem dX8_of_5 : decode cX8_of 5 = .ok (.iload_n 1, 1) := by decide +kernel
theorem dX8_of_6 : decode cX8_of 6 = .ok (.imul, 1) := by decide +kernel
theorem dX8_of_7 : decode cX8_of 7 = .ok (.iadd, 1) := by decide +kernel
theorem dX8_of_8 : decode cX8_of 8 = .ok (.iload_n 2, 1) := by decide +kernel
theorem dX8_of_9 : decode cX8_of 9 = .ok (.iadd, 1) := by decide +kernel
theorem dX8_of_10 : decode cX8_of 10 = .ok (.iaload, 1) := by decide +kernel
theorem dX8_of_11 : decode cX8_of 11 = .ok (.ireturn, 1) := by decide +kernel
theorem dX8_isGrower_0 : decode cX8_isGrower 0 = .ok (.iload_n 0, 1) := by decide +kernel
theorem dX8_isGrower_1 : decode cX8_isGrower 1 = .ok (.iconst 0, 1) := by decide +kernel
theorem dX8_isGrower_2 : decode cX8_isGrower 2 = .ok (.iconst 5, 1) := by decide +kernel
theorem dX8_isGrower_3 : decode cX8_isGrower 3 = .ok (.invokestatic 32, 3) := by decide +kernel
theorem dX8_isGrower_6 : decode cX8_isGrower 6 = .ok (.ireturn, 1) := by decide +kernel
theorem dX8_isDay_0 : decode cX8_isDay 0 = .ok (.iload_n 0, 1) := by decide +kernel
theorem dX8_isDay_1 : decode cX8_isDay 1 = .ok (.iconst 0, 1) := by decide +kernel
theorem dX8_isDay_2 : decode cX8_isDay 2 = .ok (.sipush 999, 3) := by decide +kernel
theorem dX8_isDay_5 : decode cX8_isDay 5 = .ok (.invokestatic 32, 3) := by decide +kernel
theorem dX8_isDay_8 : decode cX8_isDay 8 = .ok (.ireturn, 1) := by decide +kernel
theorem dX8_lays_0 : decode cX8_lays 0 = .ok (.iconst 0, 1) := by decide +kernel
theorem dX8_lays_1 : decode cX8_lays 1 = .ok (.istore 4, 2) := by decide +kernel
theorem dX8_lays_3 : decode cX8_lays 3 = .ok (.iload 4, 2) := by decide +kernel
theorem dX8_lays_5 : decode cX8_lays 5 = .ok (.sipush 1497, 3) := by decide +kernel
theorem dX8_lays_8 : decode cX8_lays 8 = .ok (.if_icmp .ge 21, 3) := by decide +kernel
theorem dX8_lays_11 : decode cX8_lays 11 = .ok (.aload_n 2, 1) := by decide +kernel
theorem dX8_lays_12 : decode cX8_lays 12 = .ok (.iload_n 3, 1) := by decide +kernel
theorem dX8_lays_13 : decode cX8_lays 13 = .ok (.iload 4, 2) := by decide +kernel
theorem dX8_lays_15 : decode cX8_lays 15 = .ok (.iadd, 1) := by decide +kernel
theorem dX8_lays_16 : decode cX8_lays 16 = .ok (.aload_n 0, 1) := by decide +kernel
theorem dX8_lays_17 : decode cX8_lays 17 = .ok (.iload_n 1, 1) := by decide +kernel
theorem dX8_lays_18 : decode cX8_lays 18 = .ok (.iload 4, 2) := by decide +kernel
theorem dX8_lays_20 : decode cX8_lays 20 = .ok (.iadd, 1) := by decide +kernel
theorem dX8_lays_21 : decode cX8_lays 21 = .ok (.iaload, 1) := by decide +kernel
theorem dX8_lays_22 : decode cX8_lays 22 = .ok (.iastore, 1) := by decide +kernel

theorem dX0_init_0 : decode cX0_init 0 = .ok (.aload_n 0, 1) := by decide +kernel
theorem dX0_init_1 : decode cX0_init 1 = .ok (.invokespecial 3, 3) := by decide +kernel
theorem dX0_init_4 : decode cX0_init 4 = .ok (.aload_n 0, 1) := by decide +kernel
theorem dX0_init_5 : decode cX0_init 5 = .ok (.iconst 0, 1) := by decide +kernel
theorem dX0_init_6 : decode cX0_init 6 = .ok (.putfield 9, 3) := by decide +kernel
theorem dX0_init_9 : decode cX0_init 9 = .ok (.aload_n 0, 1) := by decide +kernel
theorem dX0_init_10 : decode cX0_init 10 = .ok (.bipush 30, 2) := by decide +kernel
theorem dX0_init_12 : decode cX0_init 12 = .ok (.anewarray 15, 3) := by decide +kernel
theorem dX0_init_15 : decode cX0_init 15 = .ok (.putfield 17, 3) := by decide +kernel
theorem dX0_init_18 : decode cX0_init 18 = .ok (.iconst 0, 1) := by decide +kernel
theorem dX0_init_19 : decode cX0_init 19 = .ok (.istore_n 1, 1) := by decide +kernel
theorem dX0_init_20 : decode cX0_init 20 = .ok (.iload_n 1, 1) := by decide +kernel
theorem dX0_init_21 : decode cX0_init 21 = .ok (.bipush 30, 2) := by decide +kernel
theorem dX0_init_23 : decode cX0_init 23 = .ok (.if_icmp .ge 22, 3) := by decide +kernel
theorem dX0_init_26 : decode cX0_init 26 = .ok (.aload_n 0, 1) := by decide +kernel
theorem dX0_init_27 : decode cX0_init 27 = .ok (.getfield 17, 3) := by decide +kernel
theorem dX0_init_30 : decode cX0_init 30 = .ok (.iload_n 1, 1) := by decide +kernel
theorem dX0_init_31 : decode cX0_init 31 = .ok (.new 15, 3) := by decide +kernel
theorem dX0_init_34 : decode cX0_init 34 = .ok (.dup, 1) := by decide +kernel
theorem dX0_init_35 : decode cX0_init 35 = .ok (.invokespecial 21, 3) := by decide +kernel
theorem dX0_init_38 : decode cX0_init 38 = .ok (.aastore, 1) := by decide +kernel
theorem dX0_init_39 : decode cX0_init 39 = .ok (.iinc 1 1, 3) := by decide +kernel
theorem dX0_init_42 : decode cX0_init 42 = .ok (.goto (-22), 3) := by decide +kernel
theorem dX0_init_45 : decode cX0_init 45 = .ok (.return_, 1) := by decide +kernel
theorem dX0_copyFrom_0 : decode cX0_copyFrom 0 = .ok (.aload_n 0, 1) := by decide +kernel
theorem dX0_copyFrom_1 : decode cX0_copyFrom 1 = .ok (.aload_n 1, 1) := by decide +kernel
theorem dX0_copyFrom_2 : decode cX0_copyFrom 2 = .ok (.getfield 9, 3) := by decide +kernel
theorem dX0_copyFrom_5 : decode cX0_copyFrom 5 = .ok (.putfield 9, 3) := by decide +kernel
theorem dX0_copyFrom_8 : decode cX0_copyFrom 8 = .ok (.iconst 0, 1) := by decide +kernel
theorem dX0_copyFrom_9 : decode cX0_copyFrom 9 = .ok (.istore_n 2, 1) := by decide +kernel
theorem dX0_copyFrom_10 : decode cX0_copyFrom 10 = .ok (.iload_n 2, 1) := by decide +kernel
theorem dX0_copyFrom_11 : decode cX0_copyFrom 11 = .ok (.aload_n 0, 1) := by decide +kernel
theorem dX0_copyFrom_12 : decode cX0_copyFrom 12 = .ok (.getfield 9, 3) := by decide +kernel
theorem dX0_copyFrom_15 : decode cX0_copyFrom 15 = .ok (.if_icmp .ge 30, 3) := by decide +kernel
theorem dX0_copyFrom_18 : decode cX0_copyFrom 18 = .ok (.iload_n 2, 1) := by decide +kernel
theorem dX0_copyFrom_19 : decode cX0_copyFrom 19 = .ok (.bipush 30, 2) := by decide +kernel
theorem dX0_copyFrom_21 : decode cX0_copyFrom 21 = .ok (.if_icmp .ge 24, 3) := by decide +kernel
theorem dX0_copyFrom_24 : decode cX0_copyFrom 24 = .ok (.aload_n 0, 1) := by decide +kernel
theorem dX0_copyFrom_25 : decode cX0_copyFrom 25 = .ok (.getfield 17, 3) := by decide +kernel
theorem dX0_copyFrom_28 : decode cX0_copyFrom 28 = .ok (.iload_n 2, 1) := by decide +kernel
theorem dX0_copyFrom_29 : decode cX0_copyFrom 29 = .ok (.aaload, 1) := by decide +kernel
theorem dX0_copyFrom_30 : decode cX0_copyFrom 30 = .ok (.aload_n 1, 1) := by decide +kernel
theorem dX0_copyFrom_31 : decode cX0_copyFrom 31 = .ok (.getfield 17, 3) := by decide +kernel
theorem dX0_copyFrom_34 : decode cX0_copyFrom 34 = .ok (.iload_n 2, 1) := by decide +kernel
theorem dX0_copyFrom_35 : decode cX0_copyFrom 35 = .ok (.aaload, 1) := by decide +kernel
theorem dX0_copyFrom_36 : decode cX0_copyFrom 36 = .ok (.invokevirtual 22, 3) := by decide +kernel
theorem dX0_copyFrom_39 : decode cX0_copyFrom 39 = .ok (.iinc 2 1, 3) := by decide +kernel
theorem dX0_copyFrom_42 : decode cX0_copyFrom 42 = .ok (.goto (-32), 3) := by decide +kernel
theorem dX0_copyFrom_45 : decode cX0_copyFrom 45 = .ok (.return_, 1) := by decide +kernel
theorem dX0_append_0 : decode cX0_append 0 = .ok (.aload_n 0, 1) := by decide +kernel
theorem dX0_append_1 : decode cX0_append 1 = .ok (.getfield 9, 3) := by decide +kernel
theorem dX0_append_4 : decode cX0_append 4 = .ok (.bipush 30, 2) := by decide +kernel
theorem dX0_append_6 : decode cX0_append 6 = .ok (.if_icmp .ge 25, 3) := by decide +kernel
theorem dX0_append_9 : decode cX0_append 9 = .ok (.aload_n 0, 1) := by decide +kernel
theorem dX0_append_10 : decode cX0_append 10 = .ok (.dup, 1) := by decide +kernel
theorem dX0_append_11 : decode cX0_append 11 = .ok (.getfield 9, 3) := by decide +kernel
theorem dX0_append_14 : decode cX0_append 14 = .ok (.iconst 1, 1) := by decide +kernel
theorem dX0_append_15 : decode cX0_append 15 = .ok (.iadd, 1) := by decide +kernel
theorem dX0_append_16 : decode cX0_append 16 = .ok (.putfield 9, 3) := by decide +kernel
theorem dX0_append_19 : decode cX0_append 19 = .ok (.aload_n 0, 1) := by decide +kernel
theorem dX0_append_20 : decode cX0_append 20 = .ok (.getfield 17, 3) := by decide +kernel
theorem dX0_append_23 : decode cX0_append 23 = .ok (.aload_n 0, 1) := by decide +kernel
theorem dX0_append_24 : decode cX0_append 24 = .ok (.getfield 9, 3) := by decide +kernel
theorem dX0_append_27 : decode cX0_append 27 = .ok (.iconst 1, 1) := by decide +kernel
theorem dX0_append_28 : decode cX0_append 28 = .ok (.isub, 1) := by decide +kernel
theorem dX0_append_29 : decode cX0_append 29 = .ok (.aaload, 1) := by decide +kernel
theorem dX0_append_30 : decode cX0_append 30 = .ok (.areturn, 1) := by decide +kernel
theorem dX0_append_31 : decode cX0_append 31 = .ok (.aload_n 0, 1) := by decide +kernel
theorem dX0_append_32 : decode cX0_append 32 = .ok (.getfield 17, 3) := by decide +kernel
theorem dX0_append_35 : decode cX0_append 35 = .ok (.iconst 0, 1) := by decide +kernel
theorem dX0_append_36 : decode cX0_append 36 = .ok (.aaload, 1) := by decide +kernel
theorem dX0_append_37 : decode cX0_append 37 = .ok (.astore_n 1, 1) := by decide +kernel
theorem dX0_append_38 : decode cX0_append 38 = .ok (.iconst 1, 1) := by decide +kernel
theorem dX0_append_39 : decode cX0_append 39 = .ok (.istore_n 2, 1) := by decide +kernel
theorem dX0_append_40 : decode cX0_append 40 = .ok (.iload_n 2, 1) := by decide +kernel
theorem dX0_append_41 : decode cX0_append 41 = .ok (.bipush 30, 2) := by decide +kernel
theorem dX0_append_43 : decode cX0_append 43 = .ok (.if_icmp .ge 23, 3) := by decide +kernel
theorem dX0_append_46 : decode cX0_append 46 = .ok (.aload_n 0, 1) := by decide +kernel
theorem dX0_append_47 : decode cX0_append 47 = .ok (.getfield 17, 3) := by decide +kernel
theorem dX0_append_50 : decode cX0_append 50 = .ok (.iload_n 2, 1) := by decide +kernel
theorem dX0_append_51 : decode cX0_append 51 = .ok (.iconst 1, 1) := by decide +kernel
theorem dX0_append_52 : decode cX0_append 52 = .ok (.isub, 1) := by decide +kernel
theorem dX0_append_53 : decode cX0_append 53 = .ok (.aload_n 0, 1) := by decide +kernel
theorem dX0_append_54 : decode cX0_append 54 = .ok (.getfield 17, 3) := by decide +kernel
theorem dX0_append_57 : decode cX0_append 57 = .ok (.iload_n 2, 1) := by decide +kernel
theorem dX0_append_58 : decode cX0_append 58 = .ok (.aaload, 1) := by decide +kernel
theorem dX0_append_59 : decode cX0_append 59 = .ok (.aastore, 1) := by decide +kernel
theorem dX0_append_60 : decode cX0_append 60 = .ok (.iinc 2 1, 3) := by decide +kernel
theorem dX0_append_63 : decode cX0_append 63 = .ok (.goto (-23), 3) := by decide +kernel
theorem dX0_append_66 : decode cX0_append 66 = .ok (.aload_n 0, 1) := by decide +kernel
theorem dX0_append_67 : decode cX0_append 67 = .ok (.getfield 17, 3) := by decide +kernel
theorem dX0_append_70 : decode cX0_append 70 = .ok (.bipush 29, 2) := by decide +kernel
theorem dX0_append_72 : decode cX0_append 72 = .ok (.aload_n 1, 1) := by decide +kernel
theorem dX0_append_73 : decode cX0_append 73 = .ok (.aastore, 1) := by decide +kernel
theorem dX0_append_74 : decode cX0_append 74 = .ok (.aload_n 1, 1) := by decide +kernel
theorem dX0_append_75 : decode cX0_append 75 = .ok (.areturn, 1) := by decide +kernel
theorem dX1_init_0 : decode cX1_init 0 = .ok (.aload_n 0, 1) := by decide +kernel
theorem dX1_init_1 : decode cX1_init 1 = .ok (.invokespecial 3, 3) := by decide +kernel
theorem dX1_init_4 : decode cX1_init 4 = .ok (.aload_n 0, 1) := by decide +kernel
theorem dX1_init_5 : decode cX1_init 5 = .ok (.sipush 255, 3) := by decide +kernel
theorem dX1_init_8 : decode cX1_init 8 = .ok (.newarray .int, 2) := by decide +kernel
theorem dX1_init_10 : decode cX1_init 10 = .ok (.putfield 9, 3) := by decide +kernel
theorem dX1_init_13 : decode cX1_init 13 = .ok (.return_, 1) := by decide +kernel
theorem dX1_copyFrom_0 : decode cX1_copyFrom 0 = .ok (.aload_n 0, 1) := by decide +kernel
theorem dX1_copyFrom_1 : decode cX1_copyFrom 1 = .ok (.aload_n 1, 1) := by decide +kernel
theorem dX1_copyFrom_2 : decode cX1_copyFrom 2 = .ok (.getfield 15, 3) := by decide +kernel
theorem dX1_copyFrom_5 : decode cX1_copyFrom 5 = .ok (.putfield 15, 3) := by decide +kernel
theorem dX1_copyFrom_8 : decode cX1_copyFrom 8 = .ok (.aload_n 0, 1) := by decide +kernel
theorem dX1_copyFrom_9 : decode cX1_copyFrom 9 = .ok (.aload_n 1, 1) := by decide +kernel
theorem dX1_copyFrom_10 : decode cX1_copyFrom 10 = .ok (.getfield 19, 3) := by decide +kernel
theorem dX1_copyFrom_13 : decode cX1_copyFrom 13 = .ok (.putfield 19, 3) := by decide +kernel
theorem dX1_copyFrom_16 : decode cX1_copyFrom 16 = .ok (.aload_n 0, 1) := by decide +kernel
theorem dX1_copyFrom_17 : decode cX1_copyFrom 17 = .ok (.aload_n 1, 1) := by decide +kernel
theorem dX1_copyFrom_18 : decode cX1_copyFrom 18 = .ok (.getfield 22, 3) := by decide +kernel
theorem dX1_copyFrom_21 : decode cX1_copyFrom 21 = .ok (.putfield 22, 3) := by decide +kernel
theorem dX1_copyFrom_24 : decode cX1_copyFrom 24 = .ok (.aload_n 0, 1) := by decide +kernel
theorem dX1_copyFrom_25 : decode cX1_copyFrom 25 = .ok (.aload_n 1, 1) := by decide +kernel
theorem dX1_copyFrom_26 : decode cX1_copyFrom 26 = .ok (.getfield 25, 3) := by decide +kernel
theorem dX1_copyFrom_29 : decode cX1_copyFrom 29 = .ok (.putfield 25, 3) := by decide +kernel
theorem dX1_copyFrom_32 : decode cX1_copyFrom 32 = .ok (.aload_n 1, 1) := by decide +kernel
theorem dX1_copyFrom_33 : decode cX1_copyFrom 33 = .ok (.getfield 9, 3) := by decide +kernel
theorem dX1_copyFrom_36 : decode cX1_copyFrom 36 = .ok (.iconst 0, 1) := by decide +kernel
theorem dX1_copyFrom_37 : decode cX1_copyFrom 37 = .ok (.aload_n 0, 1) := by decide +kernel
theorem dX1_copyFrom_38 : decode cX1_copyFrom 38 = .ok (.getfield 9, 3) := by decide +kernel
theorem dX1_copyFrom_41 : decode cX1_copyFrom 41 = .ok (.iconst 0, 1) := by decide +kernel
theorem dX1_copyFrom_42 : decode cX1_copyFrom 42 = .ok (.sipush 255, 3) := by decide +kernel
theorem dX1_copyFrom_45 : decode cX1_copyFrom 45 = .ok (.invokestatic 28, 3) := by decide +kernel
theorem dX1_copyFrom_48 : decode cX1_copyFrom 48 = .ok (.return_, 1) := by decide +kernel
theorem dX1_fill_0 : decode cX1_fill 0 = .ok (.aload_n 0, 1) := by decide +kernel
theorem dX1_fill_1 : decode cX1_fill 1 = .ok (.iload_n 2, 1) := by decide +kernel
theorem dX1_fill_2 : decode cX1_fill 2 = .ok (.putfield 15, 3) := by decide +kernel
theorem dX1_fill_5 : decode cX1_fill 5 = .ok (.aload_n 0, 1) := by decide +kernel
theorem dX1_fill_6 : decode cX1_fill 6 = .ok (.aload_n 1, 1) := by decide +kernel
theorem dX1_fill_7 : decode cX1_fill 7 = .ok (.getfield 34, 3) := by decide +kernel
theorem dX1_fill_10 : decode cX1_fill 10 = .ok (.iconst 0, 1) := by decide +kernel
theorem dX1_fill_11 : decode cX1_fill 11 = .ok (.iaload, 1) := by decide +kernel
theorem dX1_fill_12 : decode cX1_fill 12 = .ok (.putfield 19, 3) := by decide +kernel
theorem dX1_fill_15 : decode cX1_fill 15 = .ok (.aload_n 0, 1) := by decide +kernel
theorem dX1_fill_16 : decode cX1_fill 16 = .ok (.aload_n 1, 1) := by decide +kernel
theorem dX1_fill_17 : decode cX1_fill 17 = .ok (.getfield 34, 3) := by decide +kernel
theorem dX1_fill_20 : decode cX1_fill 20 = .ok (.iconst 1, 1) := by decide +kernel
theorem dX1_fill_21 : decode cX1_fill 21 = .ok (.iaload, 1) := by decide +kernel
theorem dX1_fill_22 : decode cX1_fill 22 = .ok (.putfield 22, 3) := by decide +kernel
theorem dX1_fill_25 : decode cX1_fill 25 = .ok (.aload_n 0, 1) := by decide +kernel
theorem dX1_fill_26 : decode cX1_fill 26 = .ok (.aload_n 1, 1) := by decide +kernel
theorem dX1_fill_27 : decode cX1_fill 27 = .ok (.getfield 34, 3) := by decide +kernel
theorem dX1_fill_30 : decode cX1_fill 30 = .ok (.iconst 2, 1) := by decide +kernel
theorem dX1_fill_31 : decode cX1_fill 31 = .ok (.iaload, 1) := by decide +kernel
theorem dX1_fill_32 : decode cX1_fill 32 = .ok (.sipush 255, 3) := by decide +kernel
theorem dX1_fill_35 : decode cX1_fill 35 = .ok (.invokestatic 39, 3) := by decide +kernel
theorem dX1_fill_38 : decode cX1_fill 38 = .ok (.putfield 25, 3) := by decide +kernel
theorem dX1_fill_41 : decode cX1_fill 41 = .ok (.aload_n 1, 1) := by decide +kernel
theorem dX1_fill_42 : decode cX1_fill 42 = .ok (.getfield 34, 3) := by decide +kernel
theorem dX1_fill_45 : decode cX1_fill 45 = .ok (.iconst 3, 1) := by decide +kernel
theorem dX1_fill_46 : decode cX1_fill 46 = .ok (.aload_n 0, 1) := by decide +kernel
theorem dX1_fill_47 : decode cX1_fill 47 = .ok (.getfield 9, 3) := by decide +kernel
theorem dX1_fill_50 : decode cX1_fill 50 = .ok (.iconst 0, 1) := by decide +kernel
theorem dX1_fill_51 : decode cX1_fill 51 = .ok (.sipush 255, 3) := by decide +kernel
theorem dX1_fill_54 : decode cX1_fill 54 = .ok (.invokestatic 28, 3) := by decide +kernel
theorem dX1_fill_57 : decode cX1_fill 57 = .ok (.return_, 1) := by decide +kernel
theorem dX1_sum_0 : decode cX1_sum 0 = .ok (.iconst 0, 1) := by decide +kernel
theorem dX1_sum_1 : decode cX1_sum 1 = .ok (.istore_n 1, 1) := by decide +kernel
theorem dX1_sum_2 : decode cX1_sum 2 = .ok (.iconst 0, 1) := by decide +kernel
theorem dX1_sum_3 : decode cX1_sum 3 = .ok (.istore_n 2, 1) := by decide +kernel
theorem dX1_sum_4 : decode cX1_sum 4 = .ok (.iload_n 2, 1) := by decide +kernel
theorem dX1_sum_5 : decode cX1_sum 5 = .ok (.aload_n 0, 1) := by decide +kernel
theorem dX1_sum_6 : decode cX1_sum 6 = .ok (.getfield 25, 3) := by decide +kernel
theorem dX1_sum_9 : decode cX1_sum 9 = .ok (.if_icmp .ge 25, 3) := by decide +kernel
theorem dX1_sum_12 : decode cX1_sum 12 = .ok (.iload_n 2, 1) := by decide +kernel
theorem dX1_sum_13 : decode cX1_sum 13 = .ok (.sipush 255, 3) := by decide +kernel
theorem dX1_sum_16 : decode cX1_sum 16 = .ok (.if_icmp .ge 18, 3) := by decide +kernel
theorem dX1_sum_19 : decode cX1_sum 19 = .ok (.iload_n 1, 1) := by decide +kernel
theorem dX1_sum_20 : decode cX1_sum 20 = .ok (.aload_n 0, 1) := by decide +kernel
theorem dX1_sum_21 : decode cX1_sum 21 = .ok (.getfield 9, 3) := by decide +kernel
theorem dX1_sum_24 : decode cX1_sum 24 = .ok (.iload_n 2, 1) := by decide +kernel
theorem dX1_sum_25 : decode cX1_sum 25 = .ok (.iaload, 1) := by decide +kernel
theorem dX1_sum_26 : decode cX1_sum 26 = .ok (.iadd, 1) := by decide +kernel
theorem dX1_sum_27 : decode cX1_sum 27 = .ok (.istore_n 1, 1) := by decide +kernel
theorem dX1_sum_28 : decode cX1_sum 28 = .ok (.iinc 2 1, 3) := by decide +kernel
theorem dX1_sum_31 : decode cX1_sum 31 = .ok (.goto (-27), 3) := by decide +kernel
theorem dX1_sum_34 : decode cX1_sum 34 = .ok (.iload_n 1, 1) := by decide +kernel
theorem dX1_sum_35 : decode cX1_sum 35 = .ok (.ireturn, 1) := by decide +kernel
theorem dX2_init_0 : decode cX2_init 0 = .ok (.aload_n 0, 1) := by decide +kernel
theorem dX2_init_1 : decode cX2_init 1 = .ok (.invokespecial 3, 3) := by decide +kernel
theorem dX2_init_4 : decode cX2_init 4 = .ok (.aload_n 0, 1) := by decide +kernel
theorem dX2_init_5 : decode cX2_init 5 = .ok (.bipush 8, 2) := by decide +kernel
theorem dX2_init_7 : decode cX2_init 7 = .ok (.putfield 9, 3) := by decide +kernel
theorem dX2_init_10 : decode cX2_init 10 = .ok (.aload_n 0, 1) := by decide +kernel
theorem dX2_init_11 : decode cX2_init 11 = .ok (.iconst 0, 1) := by decide +kernel
theorem dX2_init_12 : decode cX2_init 12 = .ok (.putfield 15, 3) := by decide +kernel
theorem dX2_init_15 : decode cX2_init 15 = .ok (.aload_n 0, 1) := by decide +kernel
theorem dX2_init_16 : decode cX2_init 16 = .ok (.lconst 0, 1) := by decide +kernel
theorem dX2_init_17 : decode cX2_init 17 = .ok (.putfield 19, 3) := by decide +kernel
theorem dX2_init_20 : decode cX2_init 20 = .ok (.aload_n 0, 1) := by decide +kernel
theorem dX2_init_21 : decode cX2_init 21 = .ok (.lconst 0, 1) := by decide +kernel
theorem dX2_init_22 : decode cX2_init 22 = .ok (.putfield 23, 3) := by decide +kernel
theorem dX2_init_25 : decode cX2_init 25 = .ok (.aload_n 0, 1) := by decide +kernel
theorem dX2_init_26 : decode cX2_init 26 = .ok (.bipush 46, 2) := by decide +kernel
theorem dX2_init_28 : decode cX2_init 28 = .ok (.newarray .int, 2) := by decide +kernel
theorem dX2_init_30 : decode cX2_init 30 = .ok (.putfield 26, 3) := by decide +kernel
theorem dX2_init_33 : decode cX2_init 33 = .ok (.return_, 1) := by decide +kernel
theorem dX2_copyFrom_0 : decode cX2_copyFrom 0 = .ok (.aload_n 0, 1) := by decide +kernel
theorem dX2_copyFrom_1 : decode cX2_copyFrom 1 = .ok (.aload_n 1, 1) := by decide +kernel
theorem dX2_copyFrom_2 : decode cX2_copyFrom 2 = .ok (.getfield 9, 3) := by decide +kernel
theorem dX2_copyFrom_5 : decode cX2_copyFrom 5 = .ok (.putfield 9, 3) := by decide +kernel
theorem dX2_copyFrom_8 : decode cX2_copyFrom 8 = .ok (.aload_n 0, 1) := by decide +kernel
theorem dX2_copyFrom_9 : decode cX2_copyFrom 9 = .ok (.aload_n 1, 1) := by decide +kernel
theorem dX2_copyFrom_10 : decode cX2_copyFrom 10 = .ok (.getfield 15, 3) := by decide +kernel
theorem dX2_copyFrom_13 : decode cX2_copyFrom 13 = .ok (.putfield 15, 3) := by decide +kernel
theorem dX2_copyFrom_16 : decode cX2_copyFrom 16 = .ok (.aload_n 0, 1) := by decide +kernel
theorem dX2_copyFrom_17 : decode cX2_copyFrom 17 = .ok (.aload_n 1, 1) := by decide +kernel
theorem dX2_copyFrom_18 : decode cX2_copyFrom 18 = .ok (.getfield 19, 3) := by decide +kernel
theorem dX2_copyFrom_21 : decode cX2_copyFrom 21 = .ok (.putfield 19, 3) := by decide +kernel
theorem dX2_copyFrom_24 : decode cX2_copyFrom 24 = .ok (.aload_n 0, 1) := by decide +kernel
theorem dX2_copyFrom_25 : decode cX2_copyFrom 25 = .ok (.aload_n 1, 1) := by decide +kernel
theorem dX2_copyFrom_26 : decode cX2_copyFrom 26 = .ok (.getfield 23, 3) := by decide +kernel
theorem dX2_copyFrom_29 : decode cX2_copyFrom 29 = .ok (.putfield 23, 3) := by decide +kernel
theorem dX2_copyFrom_32 : decode cX2_copyFrom 32 = .ok (.aload_n 1, 1) := by decide +kernel
theorem dX2_copyFrom_33 : decode cX2_copyFrom 33 = .ok (.getfield 26, 3) := by decide +kernel
theorem dX2_copyFrom_36 : decode cX2_copyFrom 36 = .ok (.iconst 0, 1) := by decide +kernel
theorem dX2_copyFrom_37 : decode cX2_copyFrom 37 = .ok (.aload_n 0, 1) := by decide +kernel
theorem dX2_copyFrom_38 : decode cX2_copyFrom 38 = .ok (.getfield 26, 3) := by decide +kernel
theorem dX2_copyFrom_41 : decode cX2_copyFrom 41 = .ok (.iconst 0, 1) := by decide +kernel
theorem dX2_copyFrom_42 : decode cX2_copyFrom 42 = .ok (.bipush 46, 2) := by decide +kernel
theorem dX2_copyFrom_44 : decode cX2_copyFrom 44 = .ok (.invokestatic 30, 3) := by decide +kernel
theorem dX2_copyFrom_47 : decode cX2_copyFrom 47 = .ok (.return_, 1) := by decide +kernel
theorem dX2_begin_0 : decode cX2_begin 0 = .ok (.aload_n 0, 1) := by decide +kernel
theorem dX2_begin_1 : decode cX2_begin 1 = .ok (.iload_n 1, 1) := by decide +kernel
theorem dX2_begin_2 : decode cX2_begin 2 = .ok (.putfield 9, 3) := by decide +kernel
theorem dX2_begin_5 : decode cX2_begin 5 = .ok (.aload_n 0, 1) := by decide +kernel
theorem dX2_begin_6 : decode cX2_begin 6 = .ok (.iconst 0, 1) := by decide +kernel
theorem dX2_begin_7 : decode cX2_begin 7 = .ok (.putfield 15, 3) := by decide +kernel
theorem dX2_begin_10 : decode cX2_begin 10 = .ok (.aload_n 0, 1) := by decide +kernel
theorem dX2_begin_11 : decode cX2_begin 11 = .ok (.lload_n 2, 1) := by decide +kernel
theorem dX2_begin_12 : decode cX2_begin 12 = .ok (.putfield 19, 3) := by decide +kernel
theorem dX2_begin_15 : decode cX2_begin 15 = .ok (.aload_n 0, 1) := by decide +kernel
theorem dX2_begin_16 : decode cX2_begin 16 = .ok (.lload 4, 2) := by decide +kernel
theorem dX2_begin_18 : decode cX2_begin 18 = .ok (.putfield 23, 3) := by decide +kernel
theorem dX2_begin_21 : decode cX2_begin 21 = .ok (.return_, 1) := by decide +kernel
theorem dX2_size_0 : decode cX2_size 0 = .ok (.iconst 4, 1) := by decide +kernel
theorem dX2_size_1 : decode cX2_size 1 = .ok (.aload_n 0, 1) := by decide +kernel
theorem dX2_size_2 : decode cX2_size 2 = .ok (.getfield 9, 3) := by decide +kernel
theorem dX2_size_5 : decode cX2_size 5 = .ok (.iadd, 1) := by decide +kernel
theorem dX2_size_6 : decode cX2_size 6 = .ok (.iconst 2, 1) := by decide +kernel
theorem dX2_size_7 : decode cX2_size 7 = .ok (.iadd, 1) := by decide +kernel
theorem dX2_size_8 : decode cX2_size 8 = .ok (.ireturn, 1) := by decide +kernel
theorem dX2_headerPointer_0 : decode cX2_headerPointer 0 = .ok (.aload_n 0, 1) := by decide +kernel
theorem dX2_headerPointer_1 : decode cX2_headerPointer 1 = .ok (.getfield 26, 3) := by decide +kernel
theorem dX2_headerPointer_4 : decode cX2_headerPointer 4 = .ok (.iconst 3, 1) := by decide +kernel
theorem dX2_headerPointer_5 : decode cX2_headerPointer 5 = .ok (.iaload, 1) := by decide +kernel
theorem dX2_headerPointer_6 : decode cX2_headerPointer 6 = .ok (.ireturn, 1) := by decide +kernel
theorem dX2_fillIdle_0 : decode cX2_fillIdle 0 = .ok (.aload_n 0, 1) := by decide +kernel
theorem dX2_fillIdle_1 : decode cX2_fillIdle 1 = .ok (.getfield 26, 3) := by decide +kernel
theorem dX2_fillIdle_4 : decode cX2_fillIdle 4 = .ok (.iconst 3, 1) := by decide +kernel
theorem dX2_fillIdle_5 : decode cX2_fillIdle 5 = .ok (.sipush 254, 3) := by decide +kernel
theorem dX2_fillIdle_8 : decode cX2_fillIdle 8 = .ok (.iastore, 1) := by decide +kernel
theorem dX2_fillIdle_9 : decode cX2_fillIdle 9 = .ok (.iconst 0, 1) := by decide +kernel
theorem dX2_fillIdle_10 : decode cX2_fillIdle 10 = .ok (.istore_n 1, 1) := by decide +kernel
theorem dX2_fillIdle_11 : decode cX2_fillIdle 11 = .ok (.iload_n 1, 1) := by decide +kernel
theorem dX2_fillIdle_12 : decode cX2_fillIdle 12 = .ok (.aload_n 0, 1) := by decide +kernel
theorem dX2_fillIdle_13 : decode cX2_fillIdle 13 = .ok (.getfield 9, 3) := by decide +kernel
theorem dX2_fillIdle_16 : decode cX2_fillIdle 16 = .ok (.if_icmp .ge 25, 3) := by decide +kernel
theorem dX2_fillIdle_19 : decode cX2_fillIdle 19 = .ok (.iload_n 1, 1) := by decide +kernel
theorem dX2_fillIdle_20 : decode cX2_fillIdle 20 = .ok (.bipush 40, 2) := by decide +kernel
theorem dX2_fillIdle_22 : decode cX2_fillIdle 22 = .ok (.if_icmp .ge 19, 3) := by decide +kernel
theorem dX2_fillIdle_25 : decode cX2_fillIdle 25 = .ok (.aload_n 0, 1) := by decide +kernel
theorem dX2_fillIdle_26 : decode cX2_fillIdle 26 = .ok (.getfield 26, 3) := by decide +kernel
theorem dX2_fillIdle_29 : decode cX2_fillIdle 29 = .ok (.iconst 4, 1) := by decide +kernel
theorem dX2_fillIdle_30 : decode cX2_fillIdle 30 = .ok (.iload_n 1, 1) := by decide +kernel
theorem dX2_fillIdle_31 : decode cX2_fillIdle 31 = .ok (.iadd, 1) := by decide +kernel
theorem dX2_fillIdle_32 : decode cX2_fillIdle 32 = .ok (.bipush 85, 2) := by decide +kernel
theorem dX2_fillIdle_34 : decode cX2_fillIdle 34 = .ok (.iastore, 1) := by decide +kernel
theorem dX2_fillIdle_35 : decode cX2_fillIdle 35 = .ok (.iinc 1 1, 3) := by decide +kernel
theorem dX2_fillIdle_38 : decode cX2_fillIdle 38 = .ok (.goto (-27), 3) := by decide +kernel
theorem dX2_fillIdle_41 : decode cX2_fillIdle 41 = .ok (.return_, 1) := by decide +kernel
theorem dX2_checkPlace_0 : decode cX2_checkPlace 0 = .ok (.iconst 4, 1) := by decide +kernel
theorem dX2_checkPlace_1 : decode cX2_checkPlace 1 = .ok (.aload_n 0, 1) := by decide +kernel
theorem dX2_checkPlace_2 : decode cX2_checkPlace 2 = .ok (.getfield 9, 3) := by decide +kernel
theorem dX2_checkPlace_5 : decode cX2_checkPlace 5 = .ok (.iadd, 1) := by decide +kernel
theorem dX2_checkPlace_6 : decode cX2_checkPlace 6 = .ok (.bipush 44, 2) := by decide +kernel
theorem dX2_checkPlace_8 : decode cX2_checkPlace 8 = .ok (.invokestatic 36, 3) := by decide +kernel
theorem dX2_checkPlace_11 : decode cX2_checkPlace 11 = .ok (.ireturn, 1) := by decide +kernel
theorem dX2_checkValue_0 : decode cX2_checkValue 0 = .ok (.aload_n 0, 1) := by decide +kernel
theorem dX2_checkValue_1 : decode cX2_checkValue 1 = .ok (.invokevirtual 42, 3) := by decide +kernel
theorem dX2_checkValue_4 : decode cX2_checkValue 4 = .ok (.istore_n 1, 1) := by decide +kernel
theorem dX2_checkValue_5 : decode cX2_checkValue 5 = .ok (.aload_n 0, 1) := by decide +kernel
theorem dX2_checkValue_6 : decode cX2_checkValue 6 = .ok (.getfield 26, 3) := by decide +kernel
theorem dX2_checkValue_9 : decode cX2_checkValue 9 = .ok (.iload_n 1, 1) := by decide +kernel
theorem dX2_checkValue_10 : decode cX2_checkValue 10 = .ok (.iaload, 1) := by decide +kernel
theorem dX2_checkValue_11 : decode cX2_checkValue 11 = .ok (.sipush 256, 3) := by decide +kernel
theorem dX2_checkValue_14 : decode cX2_checkValue 14 = .ok (.imul, 1) := by decide +kernel
theorem dX2_checkValue_15 : decode cX2_checkValue 15 = .ok (.aload_n 0, 1) := by decide +kernel
theorem dX2_checkValue_16 : decode cX2_checkValue 16 = .ok (.getfield 26, 3) := by decide +kernel
theorem dX2_checkValue_19 : decode cX2_checkValue 19 = .ok (.iload_n 1, 1) := by decide +kernel
theorem dX2_checkValue_20 : decode cX2_checkValue 20 = .ok (.iconst 1, 1) := by decide +kernel
theorem dX2_checkValue_21 : decode cX2_checkValue 21 = .ok (.iadd, 1) := by decide +kernel
theorem dX2_checkValue_22 : decode cX2_checkValue 22 = .ok (.iaload, 1) := by decide +kernel
theorem dX2_checkValue_23 : decode cX2_checkValue 23 = .ok (.iadd, 1) := by decide +kernel
theorem dX2_checkValue_24 : decode cX2_checkValue 24 = .ok (.ireturn, 1) := by decide +kernel
theorem dX2_rightCheck_0 : decode cX2_rightCheck 0 = .ok (.aload_n 0, 1) := by decide +kernel
theorem dX2_rightCheck_1 : decode cX2_rightCheck 1 = .ok (.invokevirtual 42, 3) := by decide +kernel
theorem dX2_rightCheck_4 : decode cX2_rightCheck 4 = .ok (.istore_n 1, 1) := by decide +kernel
theorem dX2_rightCheck_5 : decode cX2_rightCheck 5 = .ok (.ldc 46, 2) := by decide +kernel
theorem dX2_rightCheck_7 : decode cX2_rightCheck 7 = .ok (.istore_n 2, 1) := by decide +kernel
theorem dX2_rightCheck_8 : decode cX2_rightCheck 8 = .ok (.iconst 0, 1) := by decide +kernel
theorem dX2_rightCheck_9 : decode cX2_rightCheck 9 = .ok (.istore_n 3, 1) := by decide +kernel
theorem dX2_rightCheck_10 : decode cX2_rightCheck 10 = .ok (.iload_n 3, 1) := by decide +kernel
theorem dX2_rightCheck_11 : decode cX2_rightCheck 11 = .ok (.iload_n 1, 1) := by decide +kernel
theorem dX2_rightCheck_12 : decode cX2_rightCheck 12 = .ok (.if_icmp .ge 61, 3) := by decide +kernel
theorem dX2_rightCheck_15 : decode cX2_rightCheck 15 = .ok (.iload_n 2, 1) := by decide +kernel
theorem dX2_rightCheck_16 : decode cX2_rightCheck 16 = .ok (.aload_n 0, 1) := by decide +kernel
theorem dX2_rightCheck_17 : decode cX2_rightCheck 17 = .ok (.getfield 26, 3) := by decide +kernel
theorem dX2_rightCheck_20 : decode cX2_rightCheck 20 = .ok (.iload_n 3, 1) := by decide +kernel
theorem dX2_rightCheck_21 : decode cX2_rightCheck 21 = .ok (.iaload, 1) := by decide +kernel
theorem dX2_rightCheck_22 : decode cX2_rightCheck 22 = .ok (.sipush 256, 3) := by decide +kernel
theorem dX2_rightCheck_25 : decode cX2_rightCheck 25 = .ok (.imul, 1) := by decide +kernel
theorem dX2_rightCheck_26 : decode cX2_rightCheck 26 = .ok (.ixor, 1) := by decide +kernel
theorem dX2_rightCheck_27 : decode cX2_rightCheck 27 = .ok (.istore_n 2, 1) := by decide +kernel
theorem dX2_rightCheck_28 : decode cX2_rightCheck 28 = .ok (.iconst 0, 1) := by decide +kernel
theorem dX2_rightCheck_29 : decode cX2_rightCheck 29 = .ok (.istore 4, 2) := by decide +kernel
theorem dX2_rightCheck_31 : decode cX2_rightCheck 31 = .ok (.iload 4, 2) := by decide +kernel
theorem dX2_rightCheck_33 : decode cX2_rightCheck 33 = .ok (.bipush 8, 2) := by decide +kernel
theorem dX2_rightCheck_35 : decode cX2_rightCheck 35 = .ok (.if_icmp .ge 32, 3) := by decide +kernel
theorem dX2_rightCheck_38 : decode cX2_rightCheck 38 = .ok (.iload_n 2, 1) := by decide +kernel
theorem dX2_rightCheck_39 : decode cX2_rightCheck 39 = .ok (.ldc 47, 2) := by decide +kernel
theorem dX2_rightCheck_41 : decode cX2_rightCheck 41 = .ok (.if_icmp .lt 16, 3) := by decide +kernel
theorem dX2_rightCheck_44 : decode cX2_rightCheck 44 = .ok (.iconst 2, 1) := by decide +kernel
theorem dX2_rightCheck_45 : decode cX2_rightCheck 45 = .ok (.iload_n 2, 1) := by decide +kernel
theorem dX2_rightCheck_46 : decode cX2_rightCheck 46 = .ok (.imul, 1) := by decide +kernel
theorem dX2_rightCheck_47 : decode cX2_rightCheck 47 = .ok (.sipush 4129, 3) := by decide +kernel
theorem dX2_rightCheck_50 : decode cX2_rightCheck 50 = .ok (.ixor, 1) := by decide +kernel
theorem dX2_rightCheck_51 : decode cX2_rightCheck 51 = .ok (.ldc 46, 2) := by decide +kernel
theorem dX2_rightCheck_53 : decode cX2_rightCheck 53 = .ok (.iand, 1) := by decide +kernel
theorem dX2_rightCheck_54 : decode cX2_rightCheck 54 = .ok (.goto 6, 3) := by decide +kernel
theorem dX2_rightCheck_57 : decode cX2_rightCheck 57 = .ok (.iconst 2, 1) := by decide +kernel
theorem dX2_rightCheck_58 : decode cX2_rightCheck 58 = .ok (.iload_n 2, 1) := by decide +kernel
theorem dX2_rightCheck_59 : decode cX2_rightCheck 59 = .ok (.imul, 1) := by decide +kernel
theorem dX2_rightCheck_60 : decode cX2_rightCheck 60 = .ok (.istore_n 2, 1) := by decide +kernel
theorem dX2_rightCheck_61 : decode cX2_rightCheck 61 = .ok (.iinc 4 1, 3) := by decide +kernel
theorem dX2_rightCheck_64 : decode cX2_rightCheck 64 = .ok (.goto (-33), 3) := by decide +kernel
theorem dX2_rightCheck_67 : decode cX2_rightCheck 67 = .ok (.iinc 3 1, 3) := by decide +kernel
theorem dX2_rightCheck_70 : decode cX2_rightCheck 70 = .ok (.goto (-60), 3) := by decide +kernel
theorem dX2_rightCheck_73 : decode cX2_rightCheck 73 = .ok (.iload_n 2, 1) := by decide +kernel
theorem dX2_rightCheck_74 : decode cX2_rightCheck 74 = .ok (.ireturn, 1) := by decide +kernel
theorem dX2_setRightCheck_0 : decode cX2_setRightCheck 0 = .ok (.aload_n 0, 1) := by decide +kernel
theorem dX2_setRightCheck_1 : decode cX2_setRightCheck 1 = .ok (.invokevirtual 48, 3) := by decide +kernel
theorem dX2_setRightCheck_4 : decode cX2_setRightCheck 4 = .ok (.istore_n 1, 1) := by decide +kernel
theorem dX2_setRightCheck_5 : decode cX2_setRightCheck 5 = .ok (.aload_n 0, 1) := by decide +kernel
theorem dX2_setRightCheck_6 : decode cX2_setRightCheck 6 = .ok (.invokevirtual 42, 3) := by decide +kernel
theorem dX2_setRightCheck_9 : decode cX2_setRightCheck 9 = .ok (.istore_n 2, 1) := by decide +kernel
theorem dX2_setRightCheck_10 : decode cX2_setRightCheck 10 = .ok (.aload_n 0, 1) := by decide +kernel
theorem dX2_setRightCheck_11 : decode cX2_setRightCheck 11 = .ok (.getfield 26, 3) := by decide +kernel
theorem dX2_setRightCheck_14 : decode cX2_setRightCheck 14 = .ok (.iload_n 2, 1) := by decide +kernel
theorem dX2_setRightCheck_15 : decode cX2_setRightCheck 15 = .ok (.iload_n 1, 1) := by decide +kernel
theorem dX2_setRightCheck_16 : decode cX2_setRightCheck 16 = .ok (.sipush 256, 3) := by decide +kernel
theorem dX2_setRightCheck_19 : decode cX2_setRightCheck 19 = .ok (.idiv, 1) := by decide +kernel
theorem dX2_setRightCheck_20 : decode cX2_setRightCheck 20 = .ok (.iastore, 1) := by decide +kernel
theorem dX2_setRightCheck_21 : decode cX2_setRightCheck 21 = .ok (.aload_n 0, 1) := by decide +kernel
theorem dX2_setRightCheck_22 : decode cX2_setRightCheck 22 = .ok (.getfield 26, 3) := by decide +kernel
theorem dX2_setRightCheck_25 : decode cX2_setRightCheck 25 = .ok (.iload_n 2, 1) := by decide +kernel
theorem dX2_setRightCheck_26 : decode cX2_setRightCheck 26 = .ok (.iconst 1, 1) := by decide +kernel
theorem dX2_setRightCheck_27 : decode cX2_setRightCheck 27 = .ok (.iadd, 1) := by decide +kernel
theorem dX2_setRightCheck_28 : decode cX2_setRightCheck 28 = .ok (.iload_n 1, 1) := by decide +kernel
theorem dX2_setRightCheck_29 : decode cX2_setRightCheck 29 = .ok (.sipush 256, 3) := by decide +kernel
theorem dX2_setRightCheck_32 : decode cX2_setRightCheck 32 = .ok (.irem, 1) := by decide +kernel
theorem dX2_setRightCheck_33 : decode cX2_setRightCheck 33 = .ok (.iastore, 1) := by decide +kernel
theorem dX2_setRightCheck_34 : decode cX2_setRightCheck 34 = .ok (.iload_n 1, 1) := by decide +kernel
theorem dX2_setRightCheck_35 : decode cX2_setRightCheck 35 = .ok (.ireturn, 1) := by decide +kernel
theorem dX3_init_0 : decode cX3_init 0 = .ok (.aload_n 0, 1) := by decide +kernel
theorem dX3_init_1 : decode cX3_init 1 = .ok (.invokespecial 3, 3) := by decide +kernel
theorem dX3_init_4 : decode cX3_init 4 = .ok (.return_, 1) := by decide +kernel
theorem dX3_copyFrom_0 : decode cX3_copyFrom 0 = .ok (.aload_n 0, 1) := by decide +kernel
theorem dX3_copyFrom_1 : decode cX3_copyFrom 1 = .ok (.aload_n 1, 1) := by decide +kernel
theorem dX3_copyFrom_2 : decode cX3_copyFrom 2 = .ok (.getfield 9, 3) := by decide +kernel
theorem dX3_copyFrom_5 : decode cX3_copyFrom 5 = .ok (.putfield 9, 3) := by decide +kernel
theorem dX3_copyFrom_8 : decode cX3_copyFrom 8 = .ok (.aload_n 0, 1) := by decide +kernel
theorem dX3_copyFrom_9 : decode cX3_copyFrom 9 = .ok (.aload_n 1, 1) := by decide +kernel
theorem dX3_copyFrom_10 : decode cX3_copyFrom 10 = .ok (.getfield 15, 3) := by decide +kernel
theorem dX3_copyFrom_13 : decode cX3_copyFrom 13 = .ok (.putfield 15, 3) := by decide +kernel
theorem dX3_copyFrom_16 : decode cX3_copyFrom 16 = .ok (.aload_n 0, 1) := by decide +kernel
theorem dX3_copyFrom_17 : decode cX3_copyFrom 17 = .ok (.aload_n 1, 1) := by decide +kernel
theorem dX3_copyFrom_18 : decode cX3_copyFrom 18 = .ok (.getfield 18, 3) := by decide +kernel
theorem dX3_copyFrom_21 : decode cX3_copyFrom 21 = .ok (.putfield 18, 3) := by decide +kernel
theorem dX3_copyFrom_24 : decode cX3_copyFrom 24 = .ok (.aload_n 0, 1) := by decide +kernel
theorem dX3_copyFrom_25 : decode cX3_copyFrom 25 = .ok (.aload_n 1, 1) := by decide +kernel
theorem dX3_copyFrom_26 : decode cX3_copyFrom 26 = .ok (.getfield 21, 3) := by decide +kernel
theorem dX3_copyFrom_29 : decode cX3_copyFrom 29 = .ok (.putfield 21, 3) := by decide +kernel
theorem dX3_copyFrom_32 : decode cX3_copyFrom 32 = .ok (.aload_n 0, 1) := by decide +kernel
theorem dX3_copyFrom_33 : decode cX3_copyFrom 33 = .ok (.aload_n 1, 1) := by decide +kernel
theorem dX3_copyFrom_34 : decode cX3_copyFrom 34 = .ok (.getfield 24, 3) := by decide +kernel
theorem dX3_copyFrom_37 : decode cX3_copyFrom 37 = .ok (.putfield 24, 3) := by decide +kernel
theorem dX3_copyFrom_40 : decode cX3_copyFrom 40 = .ok (.return_, 1) := by decide +kernel
theorem dX3_size_0 : decode cX3_size 0 = .ok (.iconst 3, 1) := by decide +kernel
theorem dX3_size_1 : decode cX3_size 1 = .ok (.aload_n 0, 1) := by decide +kernel
theorem dX3_size_2 : decode cX3_size 2 = .ok (.getfield 18, 3) := by decide +kernel
theorem dX3_size_5 : decode cX3_size 5 = .ok (.iadd, 1) := by decide +kernel
theorem dX3_size_6 : decode cX3_size 6 = .ok (.ireturn, 1) := by decide +kernel
theorem dX3_byteAt_0 : decode cX3_byteAt 0 = .ok (.iload_n 1, 1) := by decide +kernel
theorem dX3_byteAt_1 : decode cX3_byteAt 1 = .ok (.tableswitch 42 0 2 #[27, 32, 37], 27) := by decide +kernel
theorem dX3_byteAt_28 : decode cX3_byteAt 28 = .ok (.aload_n 0, 1) := by decide +kernel
theorem dX3_byteAt_29 : decode cX3_byteAt 29 = .ok (.getfield 9, 3) := by decide +kernel
theorem dX3_byteAt_32 : decode cX3_byteAt 32 = .ok (.ireturn, 1) := by decide +kernel
theorem dX3_byteAt_33 : decode cX3_byteAt 33 = .ok (.aload_n 0, 1) := by decide +kernel
theorem dX3_byteAt_34 : decode cX3_byteAt 34 = .ok (.getfield 15, 3) := by decide +kernel
theorem dX3_byteAt_37 : decode cX3_byteAt 37 = .ok (.ireturn, 1) := by decide +kernel
theorem dX3_byteAt_38 : decode cX3_byteAt 38 = .ok (.aload_n 0, 1) := by decide +kernel
theorem dX3_byteAt_39 : decode cX3_byteAt 39 = .ok (.getfield 18, 3) := by decide +kernel
theorem dX3_byteAt_42 : decode cX3_byteAt 42 = .ok (.ireturn, 1) := by decide +kernel
theorem dX3_byteAt_43 : decode cX3_byteAt 43 = .ok (.aload_n 0, 1) := by decide +kernel
theorem dX3_byteAt_44 : decode cX3_byteAt 44 = .ok (.getfield 9, 3) := by decide +kernel
theorem dX3_byteAt_47 : decode cX3_byteAt 47 = .ok (.bipush 15, 2) := by decide +kernel
theorem dX3_byteAt_49 : decode cX3_byteAt 49 = .ok (.if_icmp .ne 9, 3) := by decide +kernel
theorem dX3_byteAt_52 : decode cX3_byteAt 52 = .ok (.sipush 170, 3) := by decide +kernel
theorem dX3_byteAt_55 : decode cX3_byteAt 55 = .ok (.goto 18, 3) := by decide +kernel
theorem dX3_byteAt_58 : decode cX3_byteAt 58 = .ok (.aload_n 0, 1) := by decide +kernel
theorem dX3_byteAt_59 : decode cX3_byteAt 59 = .ok (.getfield 21, 3) := by decide +kernel
theorem dX3_byteAt_62 : decode cX3_byteAt 62 = .ok (.bipush 7, 2) := by decide +kernel
theorem dX3_byteAt_64 : decode cX3_byteAt 64 = .ok (.iload_n 1, 1) := by decide +kernel
theorem dX3_byteAt_65 : decode cX3_byteAt 65 = .ok (.iconst 3, 1) := by decide +kernel
theorem dX3_byteAt_66 : decode cX3_byteAt 66 = .ok (.isub, 1) := by decide +kernel
theorem dX3_byteAt_67 : decode cX3_byteAt 67 = .ok (.imul, 1) := by decide +kernel
theorem dX3_byteAt_68 : decode cX3_byteAt 68 = .ok (.iadd, 1) := by decide +kernel
theorem dX3_byteAt_69 : decode cX3_byteAt 69 = .ok (.sipush 255, 3) := by decide +kernel
theorem dX3_byteAt_72 : decode cX3_byteAt 72 = .ok (.iand, 1) := by decide +kernel
theorem dX3_byteAt_73 : decode cX3_byteAt 73 = .ok (.ireturn, 1) := by decide +kernel
theorem dX4_init_0 : decode cX4_init 0 = .ok (.aload_n 0, 1) := by decide +kernel
theorem dX4_init_1 : decode cX4_init 1 = .ok (.invokespecial 3, 3) := by decide +kernel
theorem dX4_init_4 : decode cX4_init 4 = .ok (.aload_n 0, 1) := by decide +kernel
theorem dX4_init_5 : decode cX4_init 5 = .ok (.iconst 0, 1) := by decide +kernel
theorem dX4_init_6 : decode cX4_init 6 = .ok (.putfield 9, 3) := by decide +kernel
theorem dX4_init_9 : decode cX4_init 9 = .ok (.aload_n 0, 1) := by decide +kernel
theorem dX4_init_10 : decode cX4_init 10 = .ok (.iconst 0, 1) := by decide +kernel
theorem dX4_init_11 : decode cX4_init 11 = .ok (.putfield 15, 3) := by decide +kernel
theorem dX4_init_14 : decode cX4_init 14 = .ok (.aload_n 0, 1) := by decide +kernel
theorem dX4_init_15 : decode cX4_init 15 = .ok (.iconst 0, 1) := by decide +kernel
theorem dX4_init_16 : decode cX4_init 16 = .ok (.putfield 18, 3) := by decide +kernel
theorem dX4_init_19 : decode cX4_init 19 = .ok (.aload_n 0, 1) := by decide +kernel
theorem dX4_init_20 : decode cX4_init 20 = .ok (.iconst 0, 1) := by decide +kernel
theorem dX4_init_21 : decode cX4_init 21 = .ok (.putfield 21, 3) := by decide +kernel
theorem dX4_init_24 : decode cX4_init 24 = .ok (.aload_n 0, 1) := by decide +kernel
theorem dX4_init_25 : decode cX4_init 25 = .ok (.iconst 0, 1) := by decide +kernel
theorem dX4_init_26 : decode cX4_init 26 = .ok (.putfield 25, 3) := by decide +kernel
theorem dX4_init_29 : decode cX4_init 29 = .ok (.aload_n 0, 1) := by decide +kernel
theorem dX4_init_30 : decode cX4_init 30 = .ok (.sipush 258, 3) := by decide +kernel
theorem dX4_init_33 : decode cX4_init 33 = .ok (.newarray .int, 2) := by decide +kernel
theorem dX4_init_35 : decode cX4_init 35 = .ok (.putfield 28, 3) := by decide +kernel
theorem dX4_init_38 : decode cX4_init 38 = .ok (.return_, 1) := by decide +kernel
theorem dX4_copyFrom_0 : decode cX4_copyFrom 0 = .ok (.aload_n 0, 1) := by decide +kernel
theorem dX4_copyFrom_1 : decode cX4_copyFrom 1 = .ok (.aload_n 1, 1) := by decide +kernel
theorem dX4_copyFrom_2 : decode cX4_copyFrom 2 = .ok (.getfield 9, 3) := by decide +kernel
theorem dX4_copyFrom_5 : decode cX4_copyFrom 5 = .ok (.putfield 9, 3) := by decide +kernel
theorem dX4_copyFrom_8 : decode cX4_copyFrom 8 = .ok (.aload_n 0, 1) := by decide +kernel
theorem dX4_copyFrom_9 : decode cX4_copyFrom 9 = .ok (.aload_n 1, 1) := by decide +kernel
theorem dX4_copyFrom_10 : decode cX4_copyFrom 10 = .ok (.getfield 15, 3) := by decide +kernel
theorem dX4_copyFrom_13 : decode cX4_copyFrom 13 = .ok (.putfield 15, 3) := by decide +kernel
theorem dX4_copyFrom_16 : decode cX4_copyFrom 16 = .ok (.aload_n 0, 1) := by decide +kernel
theorem dX4_copyFrom_17 : decode cX4_copyFrom 17 = .ok (.aload_n 1, 1) := by decide +kernel
theorem dX4_copyFrom_18 : decode cX4_copyFrom 18 = .ok (.getfield 18, 3) := by decide +kernel
theorem dX4_copyFrom_21 : decode cX4_copyFrom 21 = .ok (.putfield 18, 3) := by decide +kernel
theorem dX4_copyFrom_24 : decode cX4_copyFrom 24 = .ok (.aload_n 0, 1) := by decide +kernel
theorem dX4_copyFrom_25 : decode cX4_copyFrom 25 = .ok (.aload_n 1, 1) := by decide +kernel
theorem dX4_copyFrom_26 : decode cX4_copyFrom 26 = .ok (.getfield 21, 3) := by decide +kernel
theorem dX4_copyFrom_29 : decode cX4_copyFrom 29 = .ok (.putfield 21, 3) := by decide +kernel
theorem dX4_copyFrom_32 : decode cX4_copyFrom 32 = .ok (.aload_n 0, 1) := by decide +kernel
theorem dX4_copyFrom_33 : decode cX4_copyFrom 33 = .ok (.aload_n 1, 1) := by decide +kernel
theorem dX4_copyFrom_34 : decode cX4_copyFrom 34 = .ok (.getfield 25, 3) := by decide +kernel
theorem dX4_copyFrom_37 : decode cX4_copyFrom 37 = .ok (.putfield 25, 3) := by decide +kernel
theorem dX4_copyFrom_40 : decode cX4_copyFrom 40 = .ok (.aload_n 1, 1) := by decide +kernel
theorem dX4_copyFrom_41 : decode cX4_copyFrom 41 = .ok (.getfield 28, 3) := by decide +kernel
theorem dX4_copyFrom_44 : decode cX4_copyFrom 44 = .ok (.iconst 0, 1) := by decide +kernel
theorem dX4_copyFrom_45 : decode cX4_copyFrom 45 = .ok (.aload_n 0, 1) := by decide +kernel
theorem dX4_copyFrom_46 : decode cX4_copyFrom 46 = .ok (.getfield 28, 3) := by decide +kernel
theorem dX4_copyFrom_49 : decode cX4_copyFrom 49 = .ok (.iconst 0, 1) := by decide +kernel
theorem dX4_copyFrom_50 : decode cX4_copyFrom 50 = .ok (.sipush 258, 3) := by decide +kernel
theorem dX4_copyFrom_53 : decode cX4_copyFrom 53 = .ok (.invokestatic 32, 3) := by decide +kernel
theorem dX4_copyFrom_56 : decode cX4_copyFrom 56 = .ok (.return_, 1) := by decide +kernel
theorem dX4_countFrame_0 : decode cX4_countFrame 0 = .ok (.iconst 1, 1) := by decide +kernel
theorem dX4_countFrame_1 : decode cX4_countFrame 1 = .ok (.istore_n 2, 1) := by decide +kernel
theorem dX4_countFrame_2 : decode cX4_countFrame 2 = .ok (.aload_n 0, 1) := by decide +kernel
theorem dX4_countFrame_3 : decode cX4_countFrame 3 = .ok (.getfield 9, 3) := by decide +kernel
theorem dX4_countFrame_6 : decode cX4_countFrame 6 = .ok (.ifCond .le 26, 3) := by decide +kernel
theorem dX4_countFrame_9 : decode cX4_countFrame 9 = .ok (.iload_n 1, 1) := by decide +kernel
theorem dX4_countFrame_10 : decode cX4_countFrame 10 = .ok (.aload_n 0, 1) := by decide +kernel
theorem dX4_countFrame_11 : decode cX4_countFrame 11 = .ok (.getfield 18, 3) := by decide +kernel
theorem dX4_countFrame_14 : decode cX4_countFrame 14 = .ok (.isub, 1) := by decide +kernel
theorem dX4_countFrame_15 : decode cX4_countFrame 15 = .ok (.iconst 1, 1) := by decide +kernel
theorem dX4_countFrame_16 : decode cX4_countFrame 16 = .ok (.isub, 1) := by decide +kernel
theorem dX4_countFrame_17 : decode cX4_countFrame 17 = .ok (.sipush 255, 3) := by decide +kernel
theorem dX4_countFrame_20 : decode cX4_countFrame 20 = .ok (.iand, 1) := by decide +kernel
theorem dX4_countFrame_21 : decode cX4_countFrame 21 = .ok (.istore_n 2, 1) := by decide +kernel
theorem dX4_countFrame_22 : decode cX4_countFrame 22 = .ok (.aload_n 0, 1) := by decide +kernel
theorem dX4_countFrame_23 : decode cX4_countFrame 23 = .ok (.dup, 1) := by decide +kernel
theorem dX4_countFrame_24 : decode cX4_countFrame 24 = .ok (.getfield 15, 3) := by decide +kernel
theorem dX4_countFrame_27 : decode cX4_countFrame 27 = .ok (.iload_n 2, 1) := by decide +kernel
theorem dX4_countFrame_28 : decode cX4_countFrame 28 = .ok (.iadd, 1) := by decide +kernel
theorem dX4_countFrame_29 : decode cX4_countFrame 29 = .ok (.putfield 15, 3) := by decide +kernel
theorem dX4_countFrame_32 : decode cX4_countFrame 32 = .ok (.aload_n 0, 1) := by decide +kernel
theorem dX4_countFrame_33 : decode cX4_countFrame 33 = .ok (.dup, 1) := by decide +kernel
theorem dX4_countFrame_34 : decode cX4_countFrame 34 = .ok (.getfield 9, 3) := by decide +kernel
theorem dX4_countFrame_37 : decode cX4_countFrame 37 = .ok (.iconst 1, 1) := by decide +kernel
theorem dX4_countFrame_38 : decode cX4_countFrame 38 = .ok (.iadd, 1) := by decide +kernel
theorem dX4_countFrame_39 : decode cX4_countFrame 39 = .ok (.putfield 9, 3) := by decide +kernel
theorem dX4_countFrame_42 : decode cX4_countFrame 42 = .ok (.aload_n 0, 1) := by decide +kernel
theorem dX4_countFrame_43 : decode cX4_countFrame 43 = .ok (.iload_n 1, 1) := by decide +kernel
theorem dX4_countFrame_44 : decode cX4_countFrame 44 = .ok (.putfield 18, 3) := by decide +kernel
theorem dX4_countFrame_47 : decode cX4_countFrame 47 = .ok (.iload_n 2, 1) := by decide +kernel
theorem dX4_countFrame_48 : decode cX4_countFrame 48 = .ok (.ifCond .ne 5, 3) := by decide +kernel
theorem dX4_countFrame_51 : decode cX4_countFrame 51 = .ok (.iconst 0, 1) := by decide +kernel
theorem dX4_countFrame_52 : decode cX4_countFrame 52 = .ok (.ireturn, 1) := by decide +kernel
theorem dX4_countFrame_53 : decode cX4_countFrame 53 = .ok (.aload_n 0, 1) := by decide +kernel
theorem dX4_countFrame_54 : decode cX4_countFrame 54 = .ok (.getfield 25, 3) := by decide +kernel
theorem dX4_countFrame_57 : decode cX4_countFrame 57 = .ok (.ifCond .le 7, 3) := by decide +kernel
theorem dX4_countFrame_60 : decode cX4_countFrame 60 = .ok (.iconst 1, 1) := by decide +kernel
theorem dX4_countFrame_61 : decode cX4_countFrame 61 = .ok (.goto 4, 3) := by decide +kernel
theorem dX4_countFrame_64 : decode cX4_countFrame 64 = .ok (.iconst 0, 1) := by decide +kernel
theorem dX4_countFrame_65 : decode cX4_countFrame 65 = .ok (.istore_n 3, 1) := by decide +kernel
theorem dX4_countFrame_66 : decode cX4_countFrame 66 = .ok (.aload_n 0, 1) := by decide +kernel
theorem dX4_countFrame_67 : decode cX4_countFrame 67 = .ok (.iconst 0, 1) := by decide +kernel
theorem dX4_countFrame_68 : decode cX4_countFrame 68 = .ok (.putfield 25, 3) := by decide +kernel
theorem dX4_countFrame_71 : decode cX4_countFrame 71 = .ok (.aload_n 0, 1) := by decide +kernel
theorem dX4_countFrame_72 : decode cX4_countFrame 72 = .ok (.iconst 0, 1) := by decide +kernel
theorem dX4_countFrame_73 : decode cX4_countFrame 73 = .ok (.putfield 21, 3) := by decide +kernel
theorem dX4_countFrame_76 : decode cX4_countFrame 76 = .ok (.iload_n 3, 1) := by decide +kernel
theorem dX4_countFrame_77 : decode cX4_countFrame 77 = .ok (.ireturn, 1) := by decide +kernel
theorem dX4_firstPlace_0 : decode cX4_firstPlace 0 = .ok (.aload_n 0, 1) := by decide +kernel
theorem dX4_firstPlace_1 : decode cX4_firstPlace 1 = .ok (.getfield 21, 3) := by decide +kernel
theorem dX4_firstPlace_4 : decode cX4_firstPlace 4 = .ok (.ifCond .eq 5, 3) := by decide +kernel
theorem dX4_firstPlace_7 : decode cX4_firstPlace 7 = .ok (.iconst 0, 1) := by decide +kernel
theorem dX4_firstPlace_8 : decode cX4_firstPlace 8 = .ok (.ireturn, 1) := by decide +kernel
theorem dX4_firstPlace_9 : decode cX4_firstPlace 9 = .ok (.aload_n 1, 1) := by decide +kernel
theorem dX4_firstPlace_10 : decode cX4_firstPlace 10 = .ok (.invokevirtual 38, 3) := by decide +kernel
theorem dX4_firstPlace_13 : decode cX4_firstPlace 13 = .ok (.istore_n 2, 1) := by decide +kernel
theorem dX4_firstPlace_14 : decode cX4_firstPlace 14 = .ok (.aload_n 0, 1) := by decide +kernel
theorem dX4_firstPlace_15 : decode cX4_firstPlace 15 = .ok (.iload_n 2, 1) := by decide +kernel
theorem dX4_firstPlace_16 : decode cX4_firstPlace 16 = .ok (.sipush 255, 3) := by decide +kernel
theorem dX4_firstPlace_19 : decode cX4_firstPlace 19 = .ok (.if_icmp .eq 7, 3) := by decide +kernel
theorem dX4_firstPlace_22 : decode cX4_firstPlace 22 = .ok (.iconst 1, 1) := by decide +kernel
theorem dX4_firstPlace_23 : decode cX4_firstPlace 23 = .ok (.goto 4, 3) := by decide +kernel
theorem dX4_firstPlace_26 : decode cX4_firstPlace 26 = .ok (.iconst 0, 1) := by decide +kernel
theorem dX4_firstPlace_27 : decode cX4_firstPlace 27 = .ok (.putfield 21, 3) := by decide +kernel
theorem dX4_firstPlace_30 : decode cX4_firstPlace 30 = .ok (.iload_n 2, 1) := by decide +kernel
theorem dX4_firstPlace_31 : decode cX4_firstPlace 31 = .ok (.aload_n 1, 1) := by decide +kernel
theorem dX4_firstPlace_32 : decode cX4_firstPlace 32 = .ok (.getfield 44, 3) := by decide +kernel
theorem dX4_firstPlace_35 : decode cX4_firstPlace 35 = .ok (.invokestatic 47, 3) := by decide +kernel
theorem dX4_firstPlace_38 : decode cX4_firstPlace 38 = .ok (.ireturn, 1) := by decide +kernel
theorem dX4_append_0 : decode cX4_append 0 = .ok (.aload_n 0, 1) := by decide +kernel
theorem dX4_append_1 : decode cX4_append 1 = .ok (.getfield 25, 3) := by decide +kernel
theorem dX4_append_4 : decode cX4_append 4 = .ok (.ifCond .lt 33, 3) := by decide +kernel
theorem dX4_append_7 : decode cX4_append 7 = .ok (.aload_n 0, 1) := by decide +kernel
theorem dX4_append_8 : decode cX4_append 8 = .ok (.getfield 25, 3) := by decide +kernel
theorem dX4_append_11 : decode cX4_append 11 = .ok (.sipush 258, 3) := by decide +kernel
theorem dX4_append_14 : decode cX4_append 14 = .ok (.if_icmp .ge 23, 3) := by decide +kernel
theorem dX4_append_17 : decode cX4_append 17 = .ok (.aload_n 0, 1) := by decide +kernel
theorem dX4_append_18 : decode cX4_append 18 = .ok (.getfield 28, 3) := by decide +kernel
theorem dX4_append_21 : decode cX4_append 21 = .ok (.aload_n 0, 1) := by decide +kernel
theorem dX4_append_22 : decode cX4_append 22 = .ok (.getfield 25, 3) := by decide +kernel
theorem dX4_append_25 : decode cX4_append 25 = .ok (.iload_n 1, 1) := by decide +kernel
theorem dX4_append_26 : decode cX4_append 26 = .ok (.iastore, 1) := by decide +kernel
theorem dX4_append_27 : decode cX4_append 27 = .ok (.aload_n 0, 1) := by decide +kernel
theorem dX4_append_28 : decode cX4_append 28 = .ok (.dup, 1) := by decide +kernel
theorem dX4_append_29 : decode cX4_append 29 = .ok (.getfield 25, 3) := by decide +kernel
theorem dX4_append_32 : decode cX4_append 32 = .ok (.iconst 1, 1) := by decide +kernel
theorem dX4_append_33 : decode cX4_append 33 = .ok (.iadd, 1) := by decide +kernel
theorem dX4_append_34 : decode cX4_append 34 = .ok (.putfield 25, 3) := by decide +kernel
theorem dX4_append_37 : decode cX4_append 37 = .ok (.return_, 1) := by decide +kernel
theorem dX4_isComplete_0 : decode cX4_isComplete 0 = .ok (.aload_n 0, 1) := by decide +kernel
theorem dX4_isComplete_1 : decode cX4_isComplete 1 = .ok (.getfield 25, 3) := by decide +kernel
theorem dX4_isComplete_4 : decode cX4_isComplete 4 = .ok (.iconst 3, 1) := by decide +kernel
theorem dX4_isComplete_5 : decode cX4_isComplete 5 = .ok (.if_icmp .lt 22, 3) := by decide +kernel
theorem dX4_isComplete_8 : decode cX4_isComplete 8 = .ok (.aload_n 0, 1) := by decide +kernel
theorem dX4_isComplete_9 : decode cX4_isComplete 9 = .ok (.getfield 25, 3) := by decide +kernel
theorem dX4_isComplete_12 : decode cX4_isComplete 12 = .ok (.iconst 3, 1) := by decide +kernel
theorem dX4_isComplete_13 : decode cX4_isComplete 13 = .ok (.aload_n 0, 1) := by decide +kernel
theorem dX4_isComplete_14 : decode cX4_isComplete 14 = .ok (.getfield 28, 3) := by decide +kernel
theorem dX4_isComplete_17 : decode cX4_isComplete 17 = .ok (.iconst 2, 1) := by decide +kernel
theorem dX4_isComplete_18 : decode cX4_isComplete 18 = .ok (.iaload, 1) := by decide +kernel
theorem dX4_isComplete_19 : decode cX4_isComplete 19 = .ok (.iadd, 1) := by decide +kernel
theorem dX4_isComplete_20 : decode cX4_isComplete 20 = .ok (.if_icmp .lt 7, 3) := by decide +kernel
theorem dX4_isComplete_23 : decode cX4_isComplete 23 = .ok (.iconst 1, 1) := by decide +kernel
theorem dX4_isComplete_24 : decode cX4_isComplete 24 = .ok (.goto 4, 3) := by decide +kernel
theorem dX4_isComplete_27 : decode cX4_isComplete 27 = .ok (.iconst 0, 1) := by decide +kernel
theorem dX4_isComplete_28 : decode cX4_isComplete 28 = .ok (.ireturn, 1) := by decide +kernel
theorem dX5_init_0 : decode cX5_init 0 = .ok (.aload_n 0, 1) := by decide +kernel
theorem dX5_init_1 : decode cX5_init 1 = .ok (.invokespecial 3, 3) := by decide +kernel
theorem dX5_init_4 : decode cX5_init 4 = .ok (.aload_n 0, 1) := by decide +kernel
theorem dX5_init_5 : decode cX5_init 5 = .ok (.iconst 0, 1) := by decide +kernel
theorem dX5_init_6 : decode cX5_init 6 = .ok (.putfield 9, 3) := by decide +kernel
theorem dX5_init_9 : decode cX5_init 9 = .ok (.aload_n 0, 1) := by decide +kernel
theorem dX5_init_10 : decode cX5_init 10 = .ok (.bipush 6, 2) := by decide +kernel
theorem dX5_init_12 : decode cX5_init 12 = .ok (.newarray .int, 2) := by decide +kernel
theorem dX5_init_14 : decode cX5_init 14 = .ok (.putfield 15, 3) := by decide +kernel
theorem dX5_init_17 : decode cX5_init 17 = .ok (.aload_n 0, 1) := by decide +kernel
theorem dX5_init_18 : decode cX5_init 18 = .ok (.bipush 15, 2) := by decide +kernel
theorem dX5_init_20 : decode cX5_init 20 = .ok (.newarray .int, 2) := by decide +kernel
theorem dX5_init_22 : decode cX5_init 22 = .ok (.putfield 19, 3) := by decide +kernel
theorem dX5_init_25 : decode cX5_init 25 = .ok (.aload_n 0, 1) := by decide +kernel
theorem dX5_init_26 : decode cX5_init 26 = .ok (.bipush 15, 2) := by decide +kernel
theorem dX5_init_28 : decode cX5_init 28 = .ok (.newarray .int, 2) := by decide +kernel
theorem dX5_init_30 : decode cX5_init 30 = .ok (.putfield 22, 3) := by decide +kernel
theorem dX5_init_33 : decode cX5_init 33 = .ok (.aload_n 0, 1) := by decide +kernel
theorem dX5_init_34 : decode cX5_init 34 = .ok (.bipush 15, 2) := by decide +kernel
theorem dX5_init_36 : decode cX5_init 36 = .ok (.newarray .int, 2) := by decide +kernel
theorem dX5_init_38 : decode cX5_init 38 = .ok (.putfield 25, 3) := by decide +kernel
theorem dX5_init_41 : decode cX5_init 41 = .ok (.aload_n 0, 1) := by decide +kernel
theorem dX5_init_42 : decode cX5_init 42 = .ok (.bipush 15, 2) := by decide +kernel
theorem dX5_init_44 : decode cX5_init 44 = .ok (.newarray .int, 2) := by decide +kernel
theorem dX5_init_46 : decode cX5_init 46 = .ok (.putfield 28, 3) := by decide +kernel
theorem dX5_init_49 : decode cX5_init 49 = .ok (.aload_n 0, 1) := by decide +kernel
theorem dX5_init_50 : decode cX5_init 50 = .ok (.iconst 4, 1) := by decide +kernel
theorem dX5_init_51 : decode cX5_init 51 = .ok (.anewarray 31, 3) := by decide +kernel
theorem dX5_init_54 : decode cX5_init 54 = .ok (.putfield 33, 3) := by decide +kernel
theorem dX5_init_57 : decode cX5_init 57 = .ok (.aload_n 0, 1) := by decide +kernel
theorem dX5_init_58 : decode cX5_init 58 = .ok (.new 37, 3) := by decide +kernel
theorem dX5_init_61 : decode cX5_init 61 = .ok (.dup, 1) := by decide +kernel
theorem dX5_init_62 : decode cX5_init 62 = .ok (.invokespecial 39, 3) := by decide +kernel
theorem dX5_init_65 : decode cX5_init 65 = .ok (.putfield 40, 3) := by decide +kernel
theorem dX5_init_68 : decode cX5_init 68 = .ok (.aload_n 0, 1) := by decide +kernel
theorem dX5_init_69 : decode cX5_init 69 = .ok (.new 44, 3) := by decide +kernel
theorem dX5_init_72 : decode cX5_init 72 = .ok (.dup, 1) := by decide +kernel
theorem dX5_init_73 : decode cX5_init 73 = .ok (.invokespecial 46, 3) := by decide +kernel
theorem dX5_init_76 : decode cX5_init 76 = .ok (.putfield 47, 3) := by decide +kernel
theorem dX5_init_79 : decode cX5_init 79 = .ok (.iconst 0, 1) := by decide +kernel
theorem dX5_init_80 : decode cX5_init 80 = .ok (.istore_n 1, 1) := by decide +kernel
theorem dX5_init_81 : decode cX5_init 81 = .ok (.iload_n 1, 1) := by decide +kernel
theorem dX5_init_82 : decode cX5_init 82 = .ok (.iconst 4, 1) := by decide +kernel
theorem dX5_init_83 : decode cX5_init 83 = .ok (.if_icmp .ge 22, 3) := by decide +kernel
theorem dX5_init_86 : decode cX5_init 86 = .ok (.aload_n 0, 1) := by decide +kernel
theorem dX5_init_87 : decode cX5_init 87 = .ok (.getfield 33, 3) := by decide +kernel
theorem dX5_init_90 : decode cX5_init 90 = .ok (.iload_n 1, 1) := by decide +kernel
theorem dX5_init_91 : decode cX5_init 91 = .ok (.new 31, 3) := by decide +kernel
theorem dX5_init_94 : decode cX5_init 94 = .ok (.dup, 1) := by decide +kernel
theorem dX5_init_95 : decode cX5_init 95 = .ok (.invokespecial 51, 3) := by decide +kernel
theorem dX5_init_98 : decode cX5_init 98 = .ok (.aastore, 1) := by decide +kernel
theorem dX5_init_99 : decode cX5_init 99 = .ok (.iinc 1 1, 3) := by decide +kernel
theorem dX5_init_102 : decode cX5_init 102 = .ok (.goto (-21), 3) := by decide +kernel
theorem dX5_init_105 : decode cX5_init 105 = .ok (.return_, 1) := by decide +kernel
theorem dX5_copyFrom_0 : decode cX5_copyFrom 0 = .ok (.aload_n 0, 1) := by decide +kernel
theorem dX5_copyFrom_1 : decode cX5_copyFrom 1 = .ok (.aload_n 1, 1) := by decide +kernel
theorem dX5_copyFrom_2 : decode cX5_copyFrom 2 = .ok (.getfield 9, 3) := by decide +kernel
theorem dX5_copyFrom_5 : decode cX5_copyFrom 5 = .ok (.putfield 9, 3) := by decide +kernel
theorem dX5_copyFrom_8 : decode cX5_copyFrom 8 = .ok (.aload_n 1, 1) := by decide +kernel
theorem dX5_copyFrom_9 : decode cX5_copyFrom 9 = .ok (.getfield 15, 3) := by decide +kernel
theorem dX5_copyFrom_12 : decode cX5_copyFrom 12 = .ok (.iconst 0, 1) := by decide +kernel
theorem dX5_copyFrom_13 : decode cX5_copyFrom 13 = .ok (.aload_n 0, 1) := by decide +kernel
theorem dX5_copyFrom_14 : decode cX5_copyFrom 14 = .ok (.getfield 15, 3) := by decide +kernel
theorem dX5_copyFrom_17 : decode cX5_copyFrom 17 = .ok (.iconst 0, 1) := by decide +kernel
theorem dX5_copyFrom_18 : decode cX5_copyFrom 18 = .ok (.bipush 6, 2) := by decide +kernel
theorem dX5_copyFrom_20 : decode cX5_copyFrom 20 = .ok (.invokestatic 52, 3) := by decide +kernel
theorem dX5_copyFrom_23 : decode cX5_copyFrom 23 = .ok (.aload_n 1, 1) := by decide +kernel
theorem dX5_copyFrom_24 : decode cX5_copyFrom 24 = .ok (.getfield 19, 3) := by decide +kernel
theorem dX5_copyFrom_27 : decode cX5_copyFrom 27 = .ok (.iconst 0, 1) := by decide +kernel
theorem dX5_copyFrom_28 : decode cX5_copyFrom 28 = .ok (.aload_n 0, 1) := by decide +kernel
theorem dX5_copyFrom_29 : decode cX5_copyFrom 29 = .ok (.getfield 19, 3) := by decide +kernel
theorem dX5_copyFrom_32 : decode cX5_copyFrom 32 = .ok (.iconst 0, 1) := by decide +kernel
theorem dX5_copyFrom_33 : decode cX5_copyFrom 33 = .ok (.bipush 15, 2) := by decide +kernel
theorem dX5_copyFrom_35 : decode cX5_copyFrom 35 = .ok (.invokestatic 52, 3) := by decide +kernel
theorem dX5_copyFrom_38 : decode cX5_copyFrom 38 = .ok (.aload_n 1, 1) := by decide +kernel
theorem dX5_copyFrom_39 : decode cX5_copyFrom 39 = .ok (.getfield 22, 3) := by decide +kernel
theorem dX5_copyFrom_42 : decode cX5_copyFrom 42 = .ok (.iconst 0, 1) := by decide +kernel
theorem dX5_copyFrom_43 : decode cX5_copyFrom 43 = .ok (.aload_n 0, 1) := by decide +kernel
theorem dX5_copyFrom_44 : decode cX5_copyFrom 44 = .ok (.getfield 22, 3) := by decide +kernel
theorem dX5_copyFrom_47 : decode cX5_copyFrom 47 = .ok (.iconst 0, 1) := by decide +kernel
theorem dX5_copyFrom_48 : decode cX5_copyFrom 48 = .ok (.bipush 15, 2) := by decide +kernel
theorem dX5_copyFrom_50 : decode cX5_copyFrom 50 = .ok (.invokestatic 52, 3) := by decide +kernel
theorem dX5_copyFrom_53 : decode cX5_copyFrom 53 = .ok (.aload_n 1, 1) := by decide +kernel
theorem dX5_copyFrom_54 : decode cX5_copyFrom 54 = .ok (.getfield 25, 3) := by decide +kernel
theorem dX5_copyFrom_57 : decode cX5_copyFrom 57 = .ok (.iconst 0, 1) := by decide +kernel
theorem dX5_copyFrom_58 : decode cX5_copyFrom 58 = .ok (.aload_n 0, 1) := by decide +kernel
theorem dX5_copyFrom_59 : decode cX5_copyFrom 59 = .ok (.getfield 25, 3) := by decide +kernel
theorem dX5_copyFrom_62 : decode cX5_copyFrom 62 = .ok (.iconst 0, 1) := by decide +kernel
theorem dX5_copyFrom_63 : decode cX5_copyFrom 63 = .ok (.bipush 15, 2) := by decide +kernel
theorem dX5_copyFrom_65 : decode cX5_copyFrom 65 = .ok (.invokestatic 52, 3) := by decide +kernel
theorem dX5_copyFrom_68 : decode cX5_copyFrom 68 = .ok (.aload_n 1, 1) := by decide +kernel
theorem dX5_copyFrom_69 : decode cX5_copyFrom 69 = .ok (.getfield 28, 3) := by decide +kernel
theorem dX5_copyFrom_72 : decode cX5_copyFrom 72 = .ok (.iconst 0, 1) := by decide +kernel
theorem dX5_copyFrom_73 : decode cX5_copyFrom 73 = .ok (.aload_n 0, 1) := by decide +kernel
theorem dX5_copyFrom_74 : decode cX5_copyFrom 74 = .ok (.getfield 28, 3) := by decide +kernel
theorem dX5_copyFrom_77 : decode cX5_copyFrom 77 = .ok (.iconst 0, 1) := by decide +kernel
theorem dX5_copyFrom_78 : decode cX5_copyFrom 78 = .ok (.bipush 15, 2) := by decide +kernel
theorem dX5_copyFrom_80 : decode cX5_copyFrom 80 = .ok (.invokestatic 52, 3) := by decide +kernel
theorem dX5_copyFrom_83 : decode cX5_copyFrom 83 = .ok (.iconst 0, 1) := by decide +kernel
theorem dX5_copyFrom_84 : decode cX5_copyFrom 84 = .ok (.istore_n 2, 1) := by decide +kernel
theorem dX5_copyFrom_85 : decode cX5_copyFrom 85 = .ok (.iload_n 2, 1) := by decide +kernel
theorem dX5_copyFrom_86 : decode cX5_copyFrom 86 = .ok (.iconst 4, 1) := by decide +kernel
theorem dX5_copyFrom_87 : decode cX5_copyFrom 87 = .ok (.if_icmp .ge 24, 3) := by decide +kernel
theorem dX5_copyFrom_90 : decode cX5_copyFrom 90 = .ok (.aload_n 0, 1) := by decide +kernel
theorem dX5_copyFrom_91 : decode cX5_copyFrom 91 = .ok (.getfield 33, 3) := by decide +kernel
theorem dX5_copyFrom_94 : decode cX5_copyFrom 94 = .ok (.iload_n 2, 1) := by decide +kernel
theorem dX5_copyFrom_95 : decode cX5_copyFrom 95 = .ok (.aaload, 1) := by decide +kernel
theorem dX5_copyFrom_96 : decode cX5_copyFrom 96 = .ok (.aload_n 1, 1) := by decide +kernel
theorem dX5_copyFrom_97 : decode cX5_copyFrom 97 = .ok (.getfield 33, 3) := by decide +kernel
theorem dX5_copyFrom_100 : decode cX5_copyFrom 100 = .ok (.iload_n 2, 1) := by decide +kernel
theorem dX5_copyFrom_101 : decode cX5_copyFrom 101 = .ok (.aaload, 1) := by decide +kernel
theorem dX5_copyFrom_102 : decode cX5_copyFrom 102 = .ok (.invokevirtual 58, 3) := by decide +kernel
theorem dX5_copyFrom_105 : decode cX5_copyFrom 105 = .ok (.iinc 2 1, 3) := by decide +kernel
theorem dX5_copyFrom_108 : decode cX5_copyFrom 108 = .ok (.goto (-23), 3) := by decide +kernel
theorem dX5_copyFrom_111 : decode cX5_copyFrom 111 = .ok (.aload_n 0, 1) := by decide +kernel
theorem dX5_copyFrom_112 : decode cX5_copyFrom 112 = .ok (.getfield 40, 3) := by decide +kernel
theorem dX5_copyFrom_115 : decode cX5_copyFrom 115 = .ok (.aload_n 1, 1) := by decide +kernel
theorem dX5_copyFrom_116 : decode cX5_copyFrom 116 = .ok (.getfield 40, 3) := by decide +kernel
theorem dX5_copyFrom_119 : decode cX5_copyFrom 119 = .ok (.invokevirtual 62, 3) := by decide +kernel
theorem dX5_copyFrom_122 : decode cX5_copyFrom 122 = .ok (.aload_n 0, 1) := by decide +kernel
theorem dX5_copyFrom_123 : decode cX5_copyFrom 123 = .ok (.getfield 47, 3) := by decide +kernel
theorem dX5_copyFrom_126 : decode cX5_copyFrom 126 = .ok (.aload_n 1, 1) := by decide +kernel
theorem dX5_copyFrom_127 : decode cX5_copyFrom 127 = .ok (.getfield 47, 3) := by decide +kernel
theorem dX5_copyFrom_130 : decode cX5_copyFrom 130 = .ok (.invokevirtual 65, 3) := by decide +kernel
theorem dX5_copyFrom_133 : decode cX5_copyFrom 133 = .ok (.return_, 1) := by decide +kernel
theorem dX5_take_0 : decode cX5_take 0 = .ok (.aload_n 1, 1) := by decide +kernel
theorem dX5_take_1 : decode cX5_take 1 = .ok (.getfield 68, 3) := by decide +kernel
theorem dX5_take_4 : decode cX5_take 4 = .ok (.ifCond .eq 5, 3) := by decide +kernel
theorem dX5_take_7 : decode cX5_take 7 = .ok (.iconst 0, 1) := by decide +kernel
theorem dX5_take_8 : decode cX5_take 8 = .ok (.ireturn, 1) := by decide +kernel
theorem dX5_take_9 : decode cX5_take 9 = .ok (.aload_n 1, 1) := by decide +kernel
theorem dX5_take_10 : decode cX5_take 10 = .ok (.getfield 74, 3) := by decide +kernel
theorem dX5_take_13 : decode cX5_take 13 = .ok (.iconst 1, 1) := by decide +kernel
theorem dX5_take_14 : decode cX5_take 14 = .ok (.iaload, 1) := by decide +kernel
theorem dX5_take_15 : decode cX5_take 15 = .ok (.istore_n 2, 1) := by decide +kernel
theorem dX5_take_16 : decode cX5_take 16 = .ok (.iload_n 2, 1) := by decide +kernel
theorem dX5_take_17 : decode cX5_take 17 = .ok (.iconst 0, 1) := by decide +kernel
theorem dX5_take_18 : decode cX5_take 18 = .ok (.iconst 3, 1) := by decide +kernel
theorem dX5_take_19 : decode cX5_take 19 = .ok (.invokestatic 77, 3) := by decide +kernel
theorem dX5_take_22 : decode cX5_take 22 = .ok (.ifCond .eq 9, 3) := by decide +kernel
theorem dX5_take_25 : decode cX5_take 25 = .ok (.iload_n 2, 1) := by decide +kernel
theorem dX5_take_26 : decode cX5_take 26 = .ok (.bipush 7, 2) := by decide +kernel
theorem dX5_take_28 : decode cX5_take 28 = .ok (.if_icmp .ne 7, 3) := by decide +kernel
theorem dX5_take_31 : decode cX5_take 31 = .ok (.iconst 1, 1) := by decide +kernel
theorem dX5_take_32 : decode cX5_take 32 = .ok (.goto 4, 3) := by decide +kernel
theorem dX5_take_35 : decode cX5_take 35 = .ok (.iconst 0, 1) := by decide +kernel
theorem dX5_take_36 : decode cX5_take 36 = .ok (.istore_n 3, 1) := by decide +kernel
theorem dX5_take_37 : decode cX5_take 37 = .ok (.iload_n 3, 1) := by decide +kernel
theorem dX5_take_38 : decode cX5_take 38 = .ok (.ifCond .eq 14, 3) := by decide +kernel
theorem dX5_take_41 : decode cX5_take 41 = .ok (.aload_n 1, 1) := by decide +kernel
theorem dX5_take_42 : decode cX5_take 42 = .ok (.invokevirtual 81, 3) := by decide +kernel
theorem dX5_take_45 : decode cX5_take 45 = .ok (.aload_n 1, 1) := by decide +kernel
theorem dX5_take_46 : decode cX5_take 46 = .ok (.invokevirtual 85, 3) := by decide +kernel
theorem dX5_take_49 : decode cX5_take 49 = .ok (.if_icmp .eq 15, 3) := by decide +kernel
theorem dX5_take_52 : decode cX5_take 52 = .ok (.aload_n 0, 1) := by decide +kernel
theorem dX5_take_53 : decode cX5_take 53 = .ok (.getfield 15, 3) := by decide +kernel
theorem dX5_take_56 : decode cX5_take 56 = .ok (.iconst 1, 1) := by decide +kernel
theorem dX5_take_57 : decode cX5_take 57 = .ok (.dup2, 1) := by decide +kernel
theorem dX5_take_58 : decode cX5_take 58 = .ok (.iaload, 1) := by decide +kernel
theorem dX5_take_59 : decode cX5_take 59 = .ok (.iconst 1, 1) := by decide +kernel
theorem dX5_take_60 : decode cX5_take 60 = .ok (.iadd, 1) := by decide +kernel
theorem dX5_take_61 : decode cX5_take 61 = .ok (.iastore, 1) := by decide +kernel
theorem dX5_take_62 : decode cX5_take 62 = .ok (.iconst 0, 1) := by decide +kernel
theorem dX5_take_63 : decode cX5_take 63 = .ok (.ireturn, 1) := by decide +kernel
theorem dX5_take_64 : decode cX5_take 64 = .ok (.aload_n 0, 1) := by decide +kernel
theorem dX5_take_65 : decode cX5_take 65 = .ok (.aload_n 1, 1) := by decide +kernel
theorem dX5_take_66 : decode cX5_take 66 = .ok (.getfield 74, 3) := by decide +kernel
theorem dX5_take_69 : decode cX5_take 69 = .ok (.iconst 0, 1) := by decide +kernel
theorem dX5_take_70 : decode cX5_take 70 = .ok (.iaload, 1) := by decide +kernel
theorem dX5_take_71 : decode cX5_take 71 = .ok (.invokevirtual 88, 3) := by decide +kernel
theorem dX5_take_74 : decode cX5_take 74 = .ok (.iload_n 2, 1) := by decide +kernel
theorem dX5_take_75 : decode cX5_take 75 = .ok (.bipush 7, 2) := by decide +kernel
theorem dX5_take_77 : decode cX5_take 77 = .ok (.if_icmp .ne 15, 3) := by decide +kernel
theorem dX5_take_80 : decode cX5_take 80 = .ok (.aload_n 0, 1) := by decide +kernel
theorem dX5_take_81 : decode cX5_take 81 = .ok (.getfield 15, 3) := by decide +kernel
theorem dX5_take_84 : decode cX5_take 84 = .ok (.iconst 5, 1) := by decide +kernel
theorem dX5_take_85 : decode cX5_take 85 = .ok (.dup2, 1) := by decide +kernel
theorem dX5_take_86 : decode cX5_take 86 = .ok (.iaload, 1) := by decide +kernel
theorem dX5_take_87 : decode cX5_take 87 = .ok (.iconst 1, 1) := by decide +kernel
theorem dX5_take_88 : decode cX5_take 88 = .ok (.iadd, 1) := by decide +kernel
theorem dX5_take_89 : decode cX5_take 89 = .ok (.iastore, 1) := by decide +kernel
theorem dX5_take_90 : decode cX5_take 90 = .ok (.iconst 0, 1) := by decide +kernel
theorem dX5_take_91 : decode cX5_take 91 = .ok (.ireturn, 1) := by decide +kernel
theorem dX5_take_92 : decode cX5_take 92 = .ok (.iload_n 2, 1) := by decide +kernel
theorem dX5_take_93 : decode cX5_take 93 = .ok (.ifCond .ne 30, 3) := by decide +kernel
theorem dX5_take_96 : decode cX5_take 96 = .ok (.aload_n 1, 1) := by decide +kernel
theorem dX5_take_97 : decode cX5_take 97 = .ok (.getfield 74, 3) := by decide +kernel
theorem dX5_take_100 : decode cX5_take 100 = .ok (.iconst 2, 1) := by decide +kernel
theorem dX5_take_101 : decode cX5_take 101 = .ok (.iaload, 1) := by decide +kernel
theorem dX5_take_102 : decode cX5_take 102 = .ok (.bipush 8, 2) := by decide +kernel
theorem dX5_take_104 : decode cX5_take 104 = .ok (.irem, 1) := by decide +kernel
theorem dX5_take_105 : decode cX5_take 105 = .ok (.ifCond .ne 18, 3) := by decide +kernel
theorem dX5_take_108 : decode cX5_take 108 = .ok (.aload_n 0, 1) := by decide +kernel
theorem dX5_take_109 : decode cX5_take 109 = .ok (.getfield 47, 3) := by decide +kernel
theorem dX5_take_112 : decode cX5_take 112 = .ok (.aload_n 1, 1) := by decide +kernel
theorem dX5_take_113 : decode cX5_take 113 = .ok (.getfield 92, 3) := by decide +kernel
theorem dX5_take_116 : decode cX5_take 116 = .ok (.aload_n 1, 1) := by decide +kernel
theorem dX5_take_117 : decode cX5_take 117 = .ok (.getfield 96, 3) := by decide +kernel
theorem dX5_take_120 : decode cX5_take 120 = .ok (.invokevirtual 99, 3) := by decide +kernel
theorem dX5_take_123 : decode cX5_take 123 = .ok (.aload_n 0, 1) := by decide +kernel
theorem dX5_take_124 : decode cX5_take 124 = .ok (.aload_n 1, 1) := by decide +kernel
theorem dX5_take_125 : decode cX5_take 125 = .ok (.iload_n 2, 1) := by decide +kernel
theorem dX5_take_126 : decode cX5_take 126 = .ok (.invokevirtual 103, 3) := by decide +kernel
theorem dX5_take_129 : decode cX5_take 129 = .ok (.ireturn, 1) := by decide +kernel
theorem dX5_countMaster_0 : decode cX5_countMaster 0 = .ok (.aload_n 0, 1) := by decide +kernel
theorem dX5_countMaster_1 : decode cX5_countMaster 1 = .ok (.getfield 15, 3) := by decide +kernel
theorem dX5_countMaster_4 : decode cX5_countMaster 4 = .ok (.iconst 0, 1) := by decide +kernel
theorem dX5_countMaster_5 : decode cX5_countMaster 5 = .ok (.iaload, 1) := by decide +kernel
theorem dX5_countMaster_6 : decode cX5_countMaster 6 = .ok (.ifCond .le 24, 3) := by decide +kernel
theorem dX5_countMaster_9 : decode cX5_countMaster 9 = .ok (.aload_n 0, 1) := by decide +kernel
theorem dX5_countMaster_10 : decode cX5_countMaster 10 = .ok (.getfield 15, 3) := by decide +kernel
theorem dX5_countMaster_13 : decode cX5_countMaster 13 = .ok (.iconst 2, 1) := by decide +kernel
theorem dX5_countMaster_14 : decode cX5_countMaster 14 = .ok (.dup2, 1) := by decide +kernel
theorem dX5_countMaster_15 : decode cX5_countMaster 15 = .ok (.iaload, 1) := by decide +kernel
theorem dX5_countMaster_16 : decode cX5_countMaster 16 = .ok (.iload_n 1, 1) := by decide +kernel
theorem dX5_countMaster_17 : decode cX5_countMaster 17 = .ok (.aload_n 0, 1) := by decide +kernel
theorem dX5_countMaster_18 : decode cX5_countMaster 18 = .ok (.getfield 9, 3) := by decide +kernel
theorem dX5_countMaster_21 : decode cX5_countMaster 21 = .ok (.isub, 1) := by decide +kernel
theorem dX5_countMaster_22 : decode cX5_countMaster 22 = .ok (.iconst 1, 1) := by decide +kernel
theorem dX5_countMaster_23 : decode cX5_countMaster 23 = .ok (.isub, 1) := by decide +kernel
theorem dX5_countMaster_24 : decode cX5_countMaster 24 = .ok (.sipush 255, 3) := by decide +kernel
theorem dX5_countMaster_27 : decode cX5_countMaster 27 = .ok (.iand, 1) := by decide +kernel
theorem dX5_countMaster_28 : decode cX5_countMaster 28 = .ok (.iadd, 1) := by decide +kernel
theorem dX5_countMaster_29 : decode cX5_countMaster 29 = .ok (.iastore, 1) := by decide +kernel
theorem dX5_countMaster_30 : decode cX5_countMaster 30 = .ok (.aload_n 0, 1) := by decide +kernel
theorem dX5_countMaster_31 : decode cX5_countMaster 31 = .ok (.iload_n 1, 1) := by decide +kernel
theorem dX5_countMaster_32 : decode cX5_countMaster 32 = .ok (.putfield 9, 3) := by decide +kernel
theorem dX5_countMaster_35 : decode cX5_countMaster 35 = .ok (.aload_n 0, 1) := by decide +kernel
theorem dX5_countMaster_36 : decode cX5_countMaster 36 = .ok (.getfield 15, 3) := by decide +kernel
theorem dX5_countMaster_39 : decode cX5_countMaster 39 = .ok (.iconst 0, 1) := by decide +kernel
theorem dX5_countMaster_40 : decode cX5_countMaster 40 = .ok (.dup2, 1) := by decide +kernel
theorem dX5_countMaster_41 : decode cX5_countMaster 41 = .ok (.iaload, 1) := by decide +kernel
theorem dX5_countMaster_42 : decode cX5_countMaster 42 = .ok (.iconst 1, 1) := by decide +kernel
theorem dX5_countMaster_43 : decode cX5_countMaster 43 = .ok (.iadd, 1) := by decide +kernel
theorem dX5_countMaster_44 : decode cX5_countMaster 44 = .ok (.iastore, 1) := by decide +kernel
theorem dX5_countMaster_45 : decode cX5_countMaster 45 = .ok (.return_, 1) := by decide +kernel
theorem dX5_takeData_0 : decode cX5_takeData 0 = .ok (.aload_n 0, 1) := by decide +kernel
theorem dX5_takeData_1 : decode cX5_takeData 1 = .ok (.getfield 33, 3) := by decide +kernel
theorem dX5_takeData_4 : decode cX5_takeData 4 = .ok (.iload_n 2, 1) := by decide +kernel
theorem dX5_takeData_5 : decode cX5_takeData 5 = .ok (.aaload, 1) := by decide +kernel
theorem dX5_takeData_6 : decode cX5_takeData 6 = .ok (.astore_n 3, 1) := by decide +kernel
theorem dX5_takeData_7 : decode cX5_takeData 7 = .ok (.aload_n 3, 1) := by decide +kernel
theorem dX5_takeData_8 : decode cX5_takeData 8 = .ok (.aload_n 1, 1) := by decide +kernel
theorem dX5_takeData_9 : decode cX5_takeData 9 = .ok (.getfield 74, 3) := by decide +kernel
theorem dX5_takeData_12 : decode cX5_takeData 12 = .ok (.iconst 2, 1) := by decide +kernel
theorem dX5_takeData_13 : decode cX5_takeData 13 = .ok (.iaload, 1) := by decide +kernel
theorem dX5_takeData_14 : decode cX5_takeData 14 = .ok (.invokevirtual 107, 3) := by decide +kernel
theorem dX5_takeData_17 : decode cX5_takeData 17 = .ok (.ifCond .eq 13, 3) := by decide +kernel
theorem dX5_takeData_20 : decode cX5_takeData 20 = .ok (.aload_n 0, 1) := by decide +kernel
theorem dX5_takeData_21 : decode cX5_takeData 21 = .ok (.getfield 15, 3) := by decide +kernel
theorem dX5_takeData_24 : decode cX5_takeData 24 = .ok (.iconst 3, 1) := by decide +kernel
theorem dX5_takeData_25 : decode cX5_takeData 25 = .ok (.dup2, 1) := by decide +kernel
theorem dX5_takeData_26 : decode cX5_takeData 26 = .ok (.iaload, 1) := by decide +kernel
theorem dX5_takeData_27 : decode cX5_takeData 27 = .ok (.iconst 1, 1) := by decide +kernel
theorem dX5_takeData_28 : decode cX5_takeData 28 = .ok (.iadd, 1) := by decide +kernel
theorem dX5_takeData_29 : decode cX5_takeData 29 = .ok (.iastore, 1) := by decide +kernel
theorem dX5_takeData_30 : decode cX5_takeData 30 = .ok (.iconst 0, 1) := by decide +kernel
theorem dX5_takeData_31 : decode cX5_takeData 31 = .ok (.istore 4, 2) := by decide +kernel
theorem dX5_takeData_33 : decode cX5_takeData 33 = .ok (.aload_n 3, 1) := by decide +kernel
theorem dX5_takeData_34 : decode cX5_takeData 34 = .ok (.aload_n 1, 1) := by decide +kernel
theorem dX5_takeData_35 : decode cX5_takeData 35 = .ok (.invokevirtual 111, 3) := by decide +kernel
theorem dX5_takeData_38 : decode cX5_takeData 38 = .ok (.istore 5, 2) := by decide +kernel
theorem dX5_takeData_40 : decode cX5_takeData 40 = .ok (.iload 5, 2) := by decide +kernel
theorem dX5_takeData_42 : decode cX5_takeData 42 = .ok (.istore 6, 2) := by decide +kernel
theorem dX5_takeData_44 : decode cX5_takeData 44 = .ok (.iload 6, 2) := by decide +kernel
theorem dX5_takeData_46 : decode cX5_takeData 46 = .ok (.aload_n 1, 1) := by decide +kernel
theorem dX5_takeData_47 : decode cX5_takeData 47 = .ok (.getfield 115, 3) := by decide +kernel
theorem dX5_takeData_50 : decode cX5_takeData 50 = .ok (.if_icmp .ge 52, 3) := by decide +kernel
theorem dX5_takeData_53 : decode cX5_takeData 53 = .ok (.iload 6, 2) := by decide +kernel
theorem dX5_takeData_55 : decode cX5_takeData 55 = .ok (.bipush 40, 2) := by decide +kernel
theorem dX5_takeData_57 : decode cX5_takeData 57 = .ok (.if_icmp .ge 45, 3) := by decide +kernel
theorem dX5_takeData_60 : decode cX5_takeData 60 = .ok (.aload_n 3, 1) := by decide +kernel
theorem dX5_takeData_61 : decode cX5_takeData 61 = .ok (.aload_n 1, 1) := by decide +kernel
theorem dX5_takeData_62 : decode cX5_takeData 62 = .ok (.getfield 74, 3) := by decide +kernel
theorem dX5_takeData_65 : decode cX5_takeData 65 = .ok (.iconst 4, 1) := by decide +kernel
theorem dX5_takeData_66 : decode cX5_takeData 66 = .ok (.iload 6, 2) := by decide +kernel
theorem dX5_takeData_68 : decode cX5_takeData 68 = .ok (.iadd, 1) := by decide +kernel
theorem dX5_takeData_69 : decode cX5_takeData 69 = .ok (.iaload, 1) := by decide +kernel
theorem dX5_takeData_70 : decode cX5_takeData 70 = .ok (.invokevirtual 118, 3) := by decide +kernel
theorem dX5_takeData_73 : decode cX5_takeData 73 = .ok (.aload_n 3, 1) := by decide +kernel
theorem dX5_takeData_74 : decode cX5_takeData 74 = .ok (.invokevirtual 121, 3) := by decide +kernel
theorem dX5_takeData_77 : decode cX5_takeData 77 = .ok (.ifCond .eq 19, 3) := by decide +kernel
theorem dX5_takeData_80 : decode cX5_takeData 80 = .ok (.iload 4, 2) := by decide +kernel
theorem dX5_takeData_82 : decode cX5_takeData 82 = .ok (.aload_n 0, 1) := by decide +kernel
theorem dX5_takeData_83 : decode cX5_takeData 83 = .ok (.aload_n 3, 1) := by decide +kernel
theorem dX5_takeData_84 : decode cX5_takeData 84 = .ok (.iload_n 2, 1) := by decide +kernel
theorem dX5_takeData_85 : decode cX5_takeData 85 = .ok (.invokevirtual 125, 3) := by decide +kernel
theorem dX5_takeData_88 : decode cX5_takeData 88 = .ok (.iadd, 1) := by decide +kernel
theorem dX5_takeData_89 : decode cX5_takeData 89 = .ok (.istore 4, 2) := by decide +kernel
theorem dX5_takeData_91 : decode cX5_takeData 91 = .ok (.aload_n 3, 1) := by decide +kernel
theorem dX5_takeData_92 : decode cX5_takeData 92 = .ok (.iconst 0, 1) := by decide +kernel
theorem dX5_takeData_93 : decode cX5_takeData 93 = .ok (.putfield 129, 3) := by decide +kernel
theorem dX5_takeData_96 : decode cX5_takeData 96 = .ok (.iinc 6 1, 3) := by decide +kernel
theorem dX5_takeData_99 : decode cX5_takeData 99 = .ok (.goto (-55), 3) := by decide +kernel
theorem dX5_takeData_102 : decode cX5_takeData 102 = .ok (.iload 4, 2) := by decide +kernel
theorem dX5_takeData_104 : decode cX5_takeData 104 = .ok (.ireturn, 1) := by decide +kernel
theorem dX5_deliver_0 : decode cX5_deliver 0 = .ok (.aload_n 1, 1) := by decide +kernel
theorem dX5_deliver_1 : decode cX5_deliver 1 = .ok (.getfield 132, 3) := by decide +kernel
theorem dX5_deliver_4 : decode cX5_deliver 4 = .ok (.iconst 0, 1) := by decide +kernel
theorem dX5_deliver_5 : decode cX5_deliver 5 = .ok (.iaload, 1) := by decide +kernel
theorem dX5_deliver_6 : decode cX5_deliver 6 = .ok (.istore_n 3, 1) := by decide +kernel
theorem dX5_deliver_7 : decode cX5_deliver 7 = .ok (.iload_n 3, 1) := by decide +kernel
theorem dX5_deliver_8 : decode cX5_deliver 8 = .ok (.bipush 15, 2) := by decide +kernel
theorem dX5_deliver_10 : decode cX5_deliver 10 = .ok (.if_icmp .ne 15, 3) := by decide +kernel
theorem dX5_deliver_13 : decode cX5_deliver 13 = .ok (.aload_n 0, 1) := by decide +kernel
theorem dX5_deliver_14 : decode cX5_deliver 14 = .ok (.getfield 15, 3) := by decide +kernel
theorem dX5_deliver_17 : decode cX5_deliver 17 = .ok (.iconst 4, 1) := by decide +kernel
theorem dX5_deliver_18 : decode cX5_deliver 18 = .ok (.dup2, 1) := by decide +kernel
theorem dX5_deliver_19 : decode cX5_deliver 19 = .ok (.iaload, 1) := by decide +kernel
theorem dX5_deliver_20 : decode cX5_deliver 20 = .ok (.iconst 1, 1) := by decide +kernel
theorem dX5_deliver_21 : decode cX5_deliver 21 = .ok (.iadd, 1) := by decide +kernel
theorem dX5_deliver_22 : decode cX5_deliver 22 = .ok (.iastore, 1) := by decide +kernel
theorem dX5_deliver_23 : decode cX5_deliver 23 = .ok (.iconst 0, 1) := by decide +kernel
theorem dX5_deliver_24 : decode cX5_deliver 24 = .ok (.ireturn, 1) := by decide +kernel
theorem dX5_deliver_25 : decode cX5_deliver 25 = .ok (.iload_n 3, 1) := by decide +kernel
theorem dX5_deliver_26 : decode cX5_deliver 26 = .ok (.iconst 0, 1) := by decide +kernel
theorem dX5_deliver_27 : decode cX5_deliver 27 = .ok (.bipush 14, 2) := by decide +kernel
theorem dX5_deliver_29 : decode cX5_deliver 29 = .ok (.invokestatic 77, 3) := by decide +kernel
theorem dX5_deliver_32 : decode cX5_deliver 32 = .ok (.ifCond .eq 15, 3) := by decide +kernel
theorem dX5_deliver_35 : decode cX5_deliver 35 = .ok (.aload_n 0, 1) := by decide +kernel
theorem dX5_deliver_36 : decode cX5_deliver 36 = .ok (.getfield 15, 3) := by decide +kernel
theorem dX5_deliver_39 : decode cX5_deliver 39 = .ok (.iconst 3, 1) := by decide +kernel
theorem dX5_deliver_40 : decode cX5_deliver 40 = .ok (.dup2, 1) := by decide +kernel
theorem dX5_deliver_41 : decode cX5_deliver 41 = .ok (.iaload, 1) := by decide +kernel
theorem dX5_deliver_42 : decode cX5_deliver 42 = .ok (.iconst 1, 1) := by decide +kernel
theorem dX5_deliver_43 : decode cX5_deliver 43 = .ok (.iadd, 1) := by decide +kernel
theorem dX5_deliver_44 : decode cX5_deliver 44 = .ok (.iastore, 1) := by decide +kernel
theorem dX5_deliver_45 : decode cX5_deliver 45 = .ok (.iconst 0, 1) := by decide +kernel
theorem dX5_deliver_46 : decode cX5_deliver 46 = .ok (.ireturn, 1) := by decide +kernel
theorem dX5_deliver_47 : decode cX5_deliver 47 = .ok (.aload_n 1, 1) := by decide +kernel
theorem dX5_deliver_48 : decode cX5_deliver 48 = .ok (.getfield 132, 3) := by decide +kernel
theorem dX5_deliver_51 : decode cX5_deliver 51 = .ok (.iconst 1, 1) := by decide +kernel
theorem dX5_deliver_52 : decode cX5_deliver 52 = .ok (.iaload, 1) := by decide +kernel
theorem dX5_deliver_53 : decode cX5_deliver 53 = .ok (.istore 4, 2) := by decide +kernel
theorem dX5_deliver_55 : decode cX5_deliver 55 = .ok (.aload_n 0, 1) := by decide +kernel
theorem dX5_deliver_56 : decode cX5_deliver 56 = .ok (.getfield 19, 3) := by decide +kernel
theorem dX5_deliver_59 : decode cX5_deliver 59 = .ok (.iload_n 3, 1) := by decide +kernel
theorem dX5_deliver_60 : decode cX5_deliver 60 = .ok (.iaload, 1) := by decide +kernel
theorem dX5_deliver_61 : decode cX5_deliver 61 = .ok (.ifCond .le 27, 3) := by decide +kernel
theorem dX5_deliver_64 : decode cX5_deliver 64 = .ok (.aload_n 0, 1) := by decide +kernel
theorem dX5_deliver_65 : decode cX5_deliver 65 = .ok (.getfield 22, 3) := by decide +kernel
theorem dX5_deliver_68 : decode cX5_deliver 68 = .ok (.iload_n 3, 1) := by decide +kernel
theorem dX5_deliver_69 : decode cX5_deliver 69 = .ok (.dup2, 1) := by decide +kernel
theorem dX5_deliver_70 : decode cX5_deliver 70 = .ok (.iaload, 1) := by decide +kernel
theorem dX5_deliver_71 : decode cX5_deliver 71 = .ok (.iload 4, 2) := by decide +kernel
theorem dX5_deliver_73 : decode cX5_deliver 73 = .ok (.aload_n 0, 1) := by decide +kernel
theorem dX5_deliver_74 : decode cX5_deliver 74 = .ok (.getfield 28, 3) := by decide +kernel
theorem dX5_deliver_77 : decode cX5_deliver 77 = .ok (.iload_n 3, 1) := by decide +kernel
theorem dX5_deliver_78 : decode cX5_deliver 78 = .ok (.iaload, 1) := by decide +kernel
theorem dX5_deliver_79 : decode cX5_deliver 79 = .ok (.isub, 1) := by decide +kernel
theorem dX5_deliver_80 : decode cX5_deliver 80 = .ok (.iconst 1, 1) := by decide +kernel
theorem dX5_deliver_81 : decode cX5_deliver 81 = .ok (.isub, 1) := by decide +kernel
theorem dX5_deliver_82 : decode cX5_deliver 82 = .ok (.sipush 255, 3) := by decide +kernel
theorem dX5_deliver_85 : decode cX5_deliver 85 = .ok (.iand, 1) := by decide +kernel
theorem dX5_deliver_86 : decode cX5_deliver 86 = .ok (.iadd, 1) := by decide +kernel
theorem dX5_deliver_87 : decode cX5_deliver 87 = .ok (.iastore, 1) := by decide +kernel
theorem dX5_deliver_88 : decode cX5_deliver 88 = .ok (.aload_n 0, 1) := by decide +kernel
theorem dX5_deliver_89 : decode cX5_deliver 89 = .ok (.getfield 28, 3) := by decide +kernel
theorem dX5_deliver_92 : decode cX5_deliver 92 = .ok (.iload_n 3, 1) := by decide +kernel
theorem dX5_deliver_93 : decode cX5_deliver 93 = .ok (.iload 4, 2) := by decide +kernel
theorem dX5_deliver_95 : decode cX5_deliver 95 = .ok (.iastore, 1) := by decide +kernel
theorem dX5_deliver_96 : decode cX5_deliver 96 = .ok (.aload_n 0, 1) := by decide +kernel
theorem dX5_deliver_97 : decode cX5_deliver 97 = .ok (.getfield 19, 3) := by decide +kernel
theorem dX5_deliver_100 : decode cX5_deliver 100 = .ok (.iload_n 3, 1) := by decide +kernel
theorem dX5_deliver_101 : decode cX5_deliver 101 = .ok (.dup2, 1) := by decide +kernel
theorem dX5_deliver_102 : decode cX5_deliver 102 = .ok (.iaload, 1) := by decide +kernel
theorem dX5_deliver_103 : decode cX5_deliver 103 = .ok (.iconst 1, 1) := by decide +kernel
theorem dX5_deliver_104 : decode cX5_deliver 104 = .ok (.iadd, 1) := by decide +kernel
theorem dX5_deliver_105 : decode cX5_deliver 105 = .ok (.iastore, 1) := by decide +kernel
theorem dX5_deliver_106 : decode cX5_deliver 106 = .ok (.aload_n 0, 1) := by decide +kernel
theorem dX5_deliver_107 : decode cX5_deliver 107 = .ok (.getfield 25, 3) := by decide +kernel
theorem dX5_deliver_110 : decode cX5_deliver 110 = .ok (.iload_n 3, 1) := by decide +kernel
theorem dX5_deliver_111 : decode cX5_deliver 111 = .ok (.dup2, 1) := by decide +kernel
theorem dX5_deliver_112 : decode cX5_deliver 112 = .ok (.iaload, 1) := by decide +kernel
theorem dX5_deliver_113 : decode cX5_deliver 113 = .ok (.aload_n 1, 1) := by decide +kernel
theorem dX5_deliver_114 : decode cX5_deliver 114 = .ok (.getfield 132, 3) := by decide +kernel
theorem dX5_deliver_117 : decode cX5_deliver 117 = .ok (.iconst 2, 1) := by decide +kernel
theorem dX5_deliver_118 : decode cX5_deliver 118 = .ok (.iaload, 1) := by decide +kernel
theorem dX5_deliver_119 : decode cX5_deliver 119 = .ok (.iadd, 1) := by decide +kernel
theorem dX5_deliver_120 : decode cX5_deliver 120 = .ok (.iastore, 1) := by decide +kernel
theorem dX5_deliver_121 : decode cX5_deliver 121 = .ok (.aload_n 0, 1) := by decide +kernel
theorem dX5_deliver_122 : decode cX5_deliver 122 = .ok (.getfield 40, 3) := by decide +kernel
theorem dX5_deliver_125 : decode cX5_deliver 125 = .ok (.invokevirtual 135, 3) := by decide +kernel
theorem dX5_deliver_128 : decode cX5_deliver 128 = .ok (.aload_n 1, 1) := by decide +kernel
theorem dX5_deliver_129 : decode cX5_deliver 129 = .ok (.iload_n 2, 1) := by decide +kernel
theorem dX5_deliver_130 : decode cX5_deliver 130 = .ok (.invokevirtual 138, 3) := by decide +kernel
theorem dX5_deliver_133 : decode cX5_deliver 133 = .ok (.iconst 1, 1) := by decide +kernel
theorem dX5_deliver_134 : decode cX5_deliver 134 = .ok (.ireturn, 1) := by decide +kernel
theorem dX6_init_0 : decode cX6_init 0 = .ok (.aload_n 0, 1) := by decide +kernel
theorem dX6_init_1 : decode cX6_init 1 = .ok (.invokespecial 3, 3) := by decide +kernel
theorem dX6_init_4 : decode cX6_init 4 = .ok (.aload_n 0, 1) := by decide +kernel
theorem dX6_init_5 : decode cX6_init 5 = .ok (.iconst 0, 1) := by decide +kernel
theorem dX6_init_6 : decode cX6_init 6 = .ok (.putfield 9, 3) := by decide +kernel
theorem dX6_init_9 : decode cX6_init 9 = .ok (.aload_n 0, 1) := by decide +kernel
theorem dX6_init_10 : decode cX6_init 10 = .ok (.bipush 50, 2) := by decide +kernel
theorem dX6_init_12 : decode cX6_init 12 = .ok (.putfield 15, 3) := by decide +kernel
theorem dX6_init_15 : decode cX6_init 15 = .ok (.aload_n 0, 1) := by decide +kernel
theorem dX6_init_16 : decode cX6_init 16 = .ok (.iconst 0, 1) := by decide +kernel
theorem dX6_init_17 : decode cX6_init 17 = .ok (.putfield 18, 3) := by decide +kernel
theorem dX6_init_20 : decode cX6_init 20 = .ok (.aload_n 0, 1) := by decide +kernel
theorem dX6_init_21 : decode cX6_init 21 = .ok (.iconst 0, 1) := by decide +kernel
theorem dX6_init_22 : decode cX6_init 22 = .ok (.putfield 21, 3) := by decide +kernel
theorem dX6_init_25 : decode cX6_init 25 = .ok (.aload_n 0, 1) := by decide +kernel
theorem dX6_init_26 : decode cX6_init 26 = .ok (.iconst 0, 1) := by decide +kernel
theorem dX6_init_27 : decode cX6_init 27 = .ok (.putfield 24, 3) := by decide +kernel
theorem dX6_init_30 : decode cX6_init 30 = .ok (.aload_n 0, 1) := by decide +kernel
theorem dX6_init_31 : decode cX6_init 31 = .ok (.iconst 0, 1) := by decide +kernel
theorem dX6_init_32 : decode cX6_init 32 = .ok (.putfield 27, 3) := by decide +kernel
theorem dX6_init_35 : decode cX6_init 35 = .ok (.aload_n 0, 1) := by decide +kernel
theorem dX6_init_36 : decode cX6_init 36 = .ok (.iconst 0, 1) := by decide +kernel
theorem dX6_init_37 : decode cX6_init 37 = .ok (.putfield 30, 3) := by decide +kernel
theorem dX6_init_40 : decode cX6_init 40 = .ok (.aload_n 0, 1) := by decide +kernel
theorem dX6_init_41 : decode cX6_init 41 = .ok (.iconst (-1), 1) := by decide +kernel
theorem dX6_init_42 : decode cX6_init 42 = .ok (.putfield 33, 3) := by decide +kernel
theorem dX6_init_45 : decode cX6_init 45 = .ok (.aload_n 0, 1) := by decide +kernel
theorem dX6_init_46 : decode cX6_init 46 = .ok (.iconst 0, 1) := by decide +kernel
theorem dX6_init_47 : decode cX6_init 47 = .ok (.putfield 36, 3) := by decide +kernel
theorem dX6_init_50 : decode cX6_init 50 = .ok (.aload_n 0, 1) := by decide +kernel
theorem dX6_init_51 : decode cX6_init 51 = .ok (.iconst 0, 1) := by decide +kernel
theorem dX6_init_52 : decode cX6_init 52 = .ok (.putfield 39, 3) := by decide +kernel
theorem dX6_init_55 : decode cX6_init 55 = .ok (.aload_n 0, 1) := by decide +kernel
theorem dX6_init_56 : decode cX6_init 56 = .ok (.bipush 13, 2) := by decide +kernel
theorem dX6_init_58 : decode cX6_init 58 = .ok (.anewarray 42, 3) := by decide +kernel
theorem dX6_init_61 : decode cX6_init 61 = .ok (.putfield 44, 3) := by decide +kernel
theorem dX6_init_64 : decode cX6_init 64 = .ok (.iconst 0, 1) := by decide +kernel
theorem dX6_init_65 : decode cX6_init 65 = .ok (.istore_n 1, 1) := by decide +kernel
theorem dX6_init_66 : decode cX6_init 66 = .ok (.iload_n 1, 1) := by decide +kernel
theorem dX6_init_67 : decode cX6_init 67 = .ok (.bipush 13, 2) := by decide +kernel
theorem dX6_init_69 : decode cX6_init 69 = .ok (.if_icmp .ge 22, 3) := by decide +kernel
theorem dX6_init_72 : decode cX6_init 72 = .ok (.aload_n 0, 1) := by decide +kernel
theorem dX6_init_73 : decode cX6_init 73 = .ok (.getfield 44, 3) := by decide +kernel
theorem dX6_init_76 : decode cX6_init 76 = .ok (.iload_n 1, 1) := by decide +kernel
theorem dX6_init_77 : decode cX6_init 77 = .ok (.new 42, 3) := by decide +kernel
theorem dX6_init_80 : decode cX6_init 80 = .ok (.dup, 1) := by decide +kernel
theorem dX6_init_81 : decode cX6_init 81 = .ok (.invokespecial 48, 3) := by decide +kernel
theorem dX6_init_84 : decode cX6_init 84 = .ok (.aastore, 1) := by decide +kernel
theorem dX6_init_85 : decode cX6_init 85 = .ok (.iinc 1 1, 3) := by decide +kernel
theorem dX6_init_88 : decode cX6_init 88 = .ok (.goto (-22), 3) := by decide +kernel
theorem dX6_init_91 : decode cX6_init 91 = .ok (.return_, 1) := by decide +kernel
theorem dX6_copyFrom_0 : decode cX6_copyFrom 0 = .ok (.aload_n 0, 1) := by decide +kernel
theorem dX6_copyFrom_1 : decode cX6_copyFrom 1 = .ok (.aload_n 1, 1) := by decide +kernel
theorem dX6_copyFrom_2 : decode cX6_copyFrom 2 = .ok (.getfield 9, 3) := by decide +kernel
theorem dX6_copyFrom_5 : decode cX6_copyFrom 5 = .ok (.putfield 9, 3) := by decide +kernel
theorem dX6_copyFrom_8 : decode cX6_copyFrom 8 = .ok (.aload_n 0, 1) := by decide +kernel
theorem dX6_copyFrom_9 : decode cX6_copyFrom 9 = .ok (.aload_n 1, 1) := by decide +kernel
theorem dX6_copyFrom_10 : decode cX6_copyFrom 10 = .ok (.getfield 15, 3) := by decide +kernel
theorem dX6_copyFrom_13 : decode cX6_copyFrom 13 = .ok (.putfield 15, 3) := by decide +kernel
theorem dX6_copyFrom_16 : decode cX6_copyFrom 16 = .ok (.aload_n 0, 1) := by decide +kernel
theorem dX6_copyFrom_17 : decode cX6_copyFrom 17 = .ok (.aload_n 1, 1) := by decide +kernel
theorem dX6_copyFrom_18 : decode cX6_copyFrom 18 = .ok (.getfield 18, 3) := by decide +kernel
theorem dX6_copyFrom_21 : decode cX6_copyFrom 21 = .ok (.putfield 18, 3) := by decide +kernel
theorem dX6_copyFrom_24 : decode cX6_copyFrom 24 = .ok (.aload_n 0, 1) := by decide +kernel
theorem dX6_copyFrom_25 : decode cX6_copyFrom 25 = .ok (.aload_n 1, 1) := by decide +kernel
theorem dX6_copyFrom_26 : decode cX6_copyFrom 26 = .ok (.getfield 21, 3) := by decide +kernel
theorem dX6_copyFrom_29 : decode cX6_copyFrom 29 = .ok (.putfield 21, 3) := by decide +kernel
theorem dX6_copyFrom_32 : decode cX6_copyFrom 32 = .ok (.aload_n 0, 1) := by decide +kernel
theorem dX6_copyFrom_33 : decode cX6_copyFrom 33 = .ok (.aload_n 1, 1) := by decide +kernel
theorem dX6_copyFrom_34 : decode cX6_copyFrom 34 = .ok (.getfield 24, 3) := by decide +kernel
theorem dX6_copyFrom_37 : decode cX6_copyFrom 37 = .ok (.putfield 24, 3) := by decide +kernel
theorem dX6_copyFrom_40 : decode cX6_copyFrom 40 = .ok (.aload_n 0, 1) := by decide +kernel
theorem dX6_copyFrom_41 : decode cX6_copyFrom 41 = .ok (.aload_n 1, 1) := by decide +kernel
theorem dX6_copyFrom_42 : decode cX6_copyFrom 42 = .ok (.getfield 27, 3) := by decide +kernel
theorem dX6_copyFrom_45 : decode cX6_copyFrom 45 = .ok (.putfield 27, 3) := by decide +kernel
theorem dX6_copyFrom_48 : decode cX6_copyFrom 48 = .ok (.aload_n 0, 1) := by decide +kernel
theorem dX6_copyFrom_49 : decode cX6_copyFrom 49 = .ok (.aload_n 1, 1) := by decide +kernel
theorem dX6_copyFrom_50 : decode cX6_copyFrom 50 = .ok (.getfield 30, 3) := by decide +kernel
theorem dX6_copyFrom_53 : decode cX6_copyFrom 53 = .ok (.putfield 30, 3) := by decide +kernel
theorem dX6_copyFrom_56 : decode cX6_copyFrom 56 = .ok (.aload_n 0, 1) := by decide +kernel
theorem dX6_copyFrom_57 : decode cX6_copyFrom 57 = .ok (.aload_n 1, 1) := by decide +kernel
theorem dX6_copyFrom_58 : decode cX6_copyFrom 58 = .ok (.getfield 33, 3) := by decide +kernel
theorem dX6_copyFrom_61 : decode cX6_copyFrom 61 = .ok (.putfield 33, 3) := by decide +kernel
theorem dX6_copyFrom_64 : decode cX6_copyFrom 64 = .ok (.aload_n 0, 1) := by decide +kernel
theorem dX6_copyFrom_65 : decode cX6_copyFrom 65 = .ok (.aload_n 1, 1) := by decide +kernel
theorem dX6_copyFrom_66 : decode cX6_copyFrom 66 = .ok (.getfield 36, 3) := by decide +kernel
theorem dX6_copyFrom_69 : decode cX6_copyFrom 69 = .ok (.putfield 36, 3) := by decide +kernel
theorem dX6_copyFrom_72 : decode cX6_copyFrom 72 = .ok (.aload_n 0, 1) := by decide +kernel
theorem dX6_copyFrom_73 : decode cX6_copyFrom 73 = .ok (.aload_n 1, 1) := by decide +kernel
theorem dX6_copyFrom_74 : decode cX6_copyFrom 74 = .ok (.getfield 39, 3) := by decide +kernel
theorem dX6_copyFrom_77 : decode cX6_copyFrom 77 = .ok (.putfield 39, 3) := by decide +kernel
theorem dX6_copyFrom_80 : decode cX6_copyFrom 80 = .ok (.iconst 0, 1) := by decide +kernel
theorem dX6_copyFrom_81 : decode cX6_copyFrom 81 = .ok (.istore_n 2, 1) := by decide +kernel
theorem dX6_copyFrom_82 : decode cX6_copyFrom 82 = .ok (.iload_n 2, 1) := by decide +kernel
theorem dX6_copyFrom_83 : decode cX6_copyFrom 83 = .ok (.aload_n 0, 1) := by decide +kernel
theorem dX6_copyFrom_84 : decode cX6_copyFrom 84 = .ok (.getfield 36, 3) := by decide +kernel
theorem dX6_copyFrom_87 : decode cX6_copyFrom 87 = .ok (.if_icmp .ge 30, 3) := by decide +kernel
theorem dX6_copyFrom_90 : decode cX6_copyFrom 90 = .ok (.iload_n 2, 1) := by decide +kernel
theorem dX6_copyFrom_91 : decode cX6_copyFrom 91 = .ok (.bipush 13, 2) := by decide +kernel
theorem dX6_copyFrom_93 : decode cX6_copyFrom 93 = .ok (.if_icmp .ge 24, 3) := by decide +kernel
theorem dX6_copyFrom_96 : decode cX6_copyFrom 96 = .ok (.aload_n 0, 1) := by decide +kernel
theorem dX6_copyFrom_97 : decode cX6_copyFrom 97 = .ok (.getfield 44, 3) := by decide +kernel
theorem dX6_copyFrom_100 : decode cX6_copyFrom 100 = .ok (.iload_n 2, 1) := by decide +kernel
theorem dX6_copyFrom_101 : decode cX6_copyFrom 101 = .ok (.aaload, 1) := by decide +kernel
theorem dX6_copyFrom_102 : decode cX6_copyFrom 102 = .ok (.aload_n 1, 1) := by decide +kernel
theorem dX6_copyFrom_103 : decode cX6_copyFrom 103 = .ok (.getfield 44, 3) := by decide +kernel
theorem dX6_copyFrom_106 : decode cX6_copyFrom 106 = .ok (.iload_n 2, 1) := by decide +kernel
theorem dX6_copyFrom_107 : decode cX6_copyFrom 107 = .ok (.aaload, 1) := by decide +kernel
theorem dX6_copyFrom_108 : decode cX6_copyFrom 108 = .ok (.invokevirtual 49, 3) := by decide +kernel
theorem dX6_copyFrom_111 : decode cX6_copyFrom 111 = .ok (.iinc 2 1, 3) := by decide +kernel
theorem dX6_copyFrom_114 : decode cX6_copyFrom 114 = .ok (.goto (-32), 3) := by decide +kernel
theorem dX6_copyFrom_117 : decode cX6_copyFrom 117 = .ok (.return_, 1) := by decide +kernel
theorem dX6_waitingPackets_0 : decode cX6_waitingPackets 0 = .ok (.iconst 0, 1) := by decide +kernel
theorem dX6_waitingPackets_1 : decode cX6_waitingPackets 1 = .ok (.istore_n 1, 1) := by decide +kernel
theorem dX6_waitingPackets_2 : decode cX6_waitingPackets 2 = .ok (.iconst 0, 1) := by decide +kernel
theorem dX6_waitingPackets_3 : decode cX6_waitingPackets 3 = .ok (.istore_n 2, 1) := by decide +kernel
theorem dX6_waitingPackets_4 : decode cX6_waitingPackets 4 = .ok (.iload_n 2, 1) := by decide +kernel
theorem dX6_waitingPackets_5 : decode cX6_waitingPackets 5 = .ok (.aload_n 0, 1) := by decide +kernel
theorem dX6_waitingPackets_6 : decode cX6_waitingPackets 6 = .ok (.getfield 36, 3) := by decide +kernel
theorem dX6_waitingPackets_9 : decode cX6_waitingPackets 9 = .ok (.if_icmp .ge 32, 3) := by decide +kernel
theorem dX6_waitingPackets_12 : decode cX6_waitingPackets 12 = .ok (.iload_n 2, 1) := by decide +kernel
theorem dX6_waitingPackets_13 : decode cX6_waitingPackets 13 = .ok (.bipush 13, 2) := by decide +kernel
theorem dX6_waitingPackets_15 : decode cX6_waitingPackets 15 = .ok (.if_icmp .ge 26, 3) := by decide +kernel
theorem dX6_waitingPackets_18 : decode cX6_waitingPackets 18 = .ok (.aload_n 0, 1) := by decide +kernel
theorem dX6_waitingPackets_19 : decode cX6_waitingPackets 19 = .ok (.getfield 44, 3) := by decide +kernel
theorem dX6_waitingPackets_22 : decode cX6_waitingPackets 22 = .ok (.iload_n 2, 1) := by decide +kernel
theorem dX6_waitingPackets_23 : decode cX6_waitingPackets 23 = .ok (.aaload, 1) := by decide +kernel
theorem dX6_waitingPackets_24 : decode cX6_waitingPackets 24 = .ok (.getfield 53, 3) := by decide +kernel
theorem dX6_waitingPackets_27 : decode cX6_waitingPackets 27 = .ok (.bipush 15, 2) := by decide +kernel
theorem dX6_waitingPackets_29 : decode cX6_waitingPackets 29 = .ok (.if_icmp .eq 6, 3) := by decide +kernel
theorem dX6_waitingPackets_32 : decode cX6_waitingPackets 32 = .ok (.iinc 1 1, 3) := by decide +kernel
theorem dX6_waitingPackets_35 : decode cX6_waitingPackets 35 = .ok (.iinc 2 1, 3) := by decide +kernel
theorem dX6_waitingPackets_38 : decode cX6_waitingPackets 38 = .ok (.goto (-34), 3) := by decide +kernel
theorem dX6_waitingPackets_41 : decode cX6_waitingPackets 41 = .ok (.iload_n 1, 1) := by decide +kernel
theorem dX6_waitingPackets_42 : decode cX6_waitingPackets 42 = .ok (.ireturn, 1) := by decide +kernel
theorem dX6_isOverdue_0 : decode cX6_isOverdue 0 = .ok (.aload_n 0, 1) := by decide +kernel
theorem dX6_isOverdue_1 : decode cX6_isOverdue 1 = .ok (.getfield 24, 3) := by decide +kernel
theorem dX6_isOverdue_4 : decode cX6_isOverdue 4 = .ok (.ifCond .le 18, 3) := by decide +kernel
theorem dX6_isOverdue_7 : decode cX6_isOverdue 7 = .ok (.aload_n 0, 1) := by decide +kernel
theorem dX6_isOverdue_8 : decode cX6_isOverdue 8 = .ok (.getfield 21, 3) := by decide +kernel
theorem dX6_isOverdue_11 : decode cX6_isOverdue 11 = .ok (.aload_n 0, 1) := by decide +kernel
theorem dX6_isOverdue_12 : decode cX6_isOverdue 12 = .ok (.getfield 15, 3) := by decide +kernel
theorem dX6_isOverdue_15 : decode cX6_isOverdue 15 = .ok (.if_icmp .lt 7, 3) := by decide +kernel
theorem dX6_isOverdue_18 : decode cX6_isOverdue 18 = .ok (.iconst 1, 1) := by decide +kernel
theorem dX6_isOverdue_19 : decode cX6_isOverdue 19 = .ok (.goto 4, 3) := by decide +kernel
theorem dX6_isOverdue_22 : decode cX6_isOverdue 22 = .ok (.iconst 0, 1) := by decide +kernel
theorem dX6_isOverdue_23 : decode cX6_isOverdue 23 = .ok (.ireturn, 1) := by decide +kernel
theorem dX6_isReady_0 : decode cX6_isReady 0 = .ok (.aload_n 0, 1) := by decide +kernel
theorem dX6_isReady_1 : decode cX6_isReady 1 = .ok (.getfield 24, 3) := by decide +kernel
theorem dX6_isReady_4 : decode cX6_isReady 4 = .ok (.iload_n 1, 1) := by decide +kernel
theorem dX6_isReady_5 : decode cX6_isReady 5 = .ok (.if_icmp .ge 21, 3) := by decide +kernel
theorem dX6_isReady_8 : decode cX6_isReady 8 = .ok (.aload_n 0, 1) := by decide +kernel
theorem dX6_isReady_9 : decode cX6_isReady 9 = .ok (.getfield 24, 3) := by decide +kernel
theorem dX6_isReady_12 : decode cX6_isReady 12 = .ok (.ifCond .le 18, 3) := by decide +kernel
theorem dX6_isReady_15 : decode cX6_isReady 15 = .ok (.aload_n 0, 1) := by decide +kernel
theorem dX6_isReady_16 : decode cX6_isReady 16 = .ok (.getfield 21, 3) := by decide +kernel
theorem dX6_isReady_19 : decode cX6_isReady 19 = .ok (.aload_n 0, 1) := by decide +kernel
theorem dX6_isReady_20 : decode cX6_isReady 20 = .ok (.getfield 18, 3) := by decide +kernel
theorem dX6_isReady_23 : decode cX6_isReady 23 = .ok (.if_icmp .lt 7, 3) := by decide +kernel
theorem dX6_isReady_26 : decode cX6_isReady 26 = .ok (.iconst 1, 1) := by decide +kernel
theorem dX6_isReady_27 : decode cX6_isReady 27 = .ok (.goto 4, 3) := by decide +kernel
theorem dX6_isReady_30 : decode cX6_isReady 30 = .ok (.iconst 0, 1) := by decide +kernel
theorem dX6_isReady_31 : decode cX6_isReady 31 = .ok (.ireturn, 1) := by decide +kernel
theorem dX6_isMoreOverdueThan_0 : decode cX6_isMoreOverdueThan 0 = .ok (.aload_n 0, 1) := by decide +kernel
theorem dX6_isMoreOverdueThan_1 : decode cX6_isMoreOverdueThan 1 = .ok (.getfield 21, 3) := by decide +kernel
theorem dX6_isMoreOverdueThan_4 : decode cX6_isMoreOverdueThan 4 = .ok (.aload_n 0, 1) := by decide +kernel
theorem dX6_isMoreOverdueThan_5 : decode cX6_isMoreOverdueThan 5 = .ok (.getfield 15, 3) := by decide +kernel
theorem dX6_isMoreOverdueThan_8 : decode cX6_isMoreOverdueThan 8 = .ok (.isub, 1) := by decide +kernel
theorem dX6_isMoreOverdueThan_9 : decode cX6_isMoreOverdueThan 9 = .ok (.istore_n 2, 1) := by decide +kernel
theorem dX6_isMoreOverdueThan_10 : decode cX6_isMoreOverdueThan 10 = .ok (.aload_n 1, 1) := by decide +kernel
theorem dX6_isMoreOverdueThan_11 : decode cX6_isMoreOverdueThan 11 = .ok (.getfield 21, 3) := by decide +kernel
theorem dX6_isMoreOverdueThan_14 : decode cX6_isMoreOverdueThan 14 = .ok (.aload_n 1, 1) := by decide +kernel
theorem dX6_isMoreOverdueThan_15 : decode cX6_isMoreOverdueThan 15 = .ok (.getfield 15, 3) := by decide +kernel
theorem dX6_isMoreOverdueThan_18 : decode cX6_isMoreOverdueThan 18 = .ok (.isub, 1) := by decide +kernel
theorem dX6_isMoreOverdueThan_19 : decode cX6_isMoreOverdueThan 19 = .ok (.istore_n 3, 1) := by decide +kernel
theorem dX6_isMoreOverdueThan_20 : decode cX6_isMoreOverdueThan 20 = .ok (.iload_n 2, 1) := by decide +kernel
theorem dX6_isMoreOverdueThan_21 : decode cX6_isMoreOverdueThan 21 = .ok (.iload_n 3, 1) := by decide +kernel
theorem dX6_isMoreOverdueThan_22 : decode cX6_isMoreOverdueThan 22 = .ok (.if_icmp .gt 16, 3) := by decide +kernel
theorem dX6_isMoreOverdueThan_25 : decode cX6_isMoreOverdueThan 25 = .ok (.iload_n 2, 1) := by decide +kernel
theorem dX6_isMoreOverdueThan_26 : decode cX6_isMoreOverdueThan 26 = .ok (.iload_n 3, 1) := by decide +kernel
theorem dX6_isMoreOverdueThan_27 : decode cX6_isMoreOverdueThan 27 = .ok (.if_icmp .ne 15, 3) := by decide +kernel
theorem dX6_isMoreOverdueThan_30 : decode cX6_isMoreOverdueThan 30 = .ok (.aload_n 0, 1) := by decide +kernel
theorem dX6_isMoreOverdueThan_31 : decode cX6_isMoreOverdueThan 31 = .ok (.aload_n 1, 1) := by decide +kernel
theorem dX6_isMoreOverdueThan_32 : decode cX6_isMoreOverdueThan 32 = .ok (.invokevirtual 56, 3) := by decide +kernel
theorem dX6_isMoreOverdueThan_35 : decode cX6_isMoreOverdueThan 35 = .ok (.ifCond .eq 7, 3) := by decide +kernel
theorem dX6_isMoreOverdueThan_38 : decode cX6_isMoreOverdueThan 38 = .ok (.iconst 1, 1) := by decide +kernel
theorem dX6_isMoreOverdueThan_39 : decode cX6_isMoreOverdueThan 39 = .ok (.goto 4, 3) := by decide +kernel
theorem dX6_isMoreOverdueThan_42 : decode cX6_isMoreOverdueThan 42 = .ok (.iconst 0, 1) := by decide +kernel
theorem dX6_isMoreOverdueThan_43 : decode cX6_isMoreOverdueThan 43 = .ok (.ireturn, 1) := by decide +kernel
theorem dX6_precedes_0 : decode cX6_precedes 0 = .ok (.aload_n 0, 1) := by decide +kernel
theorem dX6_precedes_1 : decode cX6_precedes 1 = .ok (.getfield 9, 3) := by decide +kernel
theorem dX6_precedes_4 : decode cX6_precedes 4 = .ok (.aload_n 1, 1) := by decide +kernel
theorem dX6_precedes_5 : decode cX6_precedes 5 = .ok (.getfield 9, 3) := by decide +kernel
theorem dX6_precedes_8 : decode cX6_precedes 8 = .ok (.if_icmp .gt 25, 3) := by decide +kernel
theorem dX6_precedes_11 : decode cX6_precedes 11 = .ok (.aload_n 0, 1) := by decide +kernel
theorem dX6_precedes_12 : decode cX6_precedes 12 = .ok (.getfield 9, 3) := by decide +kernel
theorem dX6_precedes_15 : decode cX6_precedes 15 = .ok (.aload_n 1, 1) := by decide +kernel
theorem dX6_precedes_16 : decode cX6_precedes 16 = .ok (.getfield 9, 3) := by decide +kernel
theorem dX6_precedes_19 : decode cX6_precedes 19 = .ok (.if_icmp .ne 18, 3) := by decide +kernel
theorem dX6_precedes_22 : decode cX6_precedes 22 = .ok (.aload_n 0, 1) := by decide +kernel
theorem dX6_precedes_23 : decode cX6_precedes 23 = .ok (.getfield 21, 3) := by decide +kernel
theorem dX6_precedes_26 : decode cX6_precedes 26 = .ok (.aload_n 1, 1) := by decide +kernel
theorem dX6_precedes_27 : decode cX6_precedes 27 = .ok (.getfield 21, 3) := by decide +kernel
theorem dX6_precedes_30 : decode cX6_precedes 30 = .ok (.if_icmp .le 7, 3) := by decide +kernel
theorem dX6_precedes_33 : decode cX6_precedes 33 = .ok (.iconst 1, 1) := by decide +kernel
theorem dX6_precedes_34 : decode cX6_precedes 34 = .ok (.goto 4, 3) := by decide +kernel
theorem dX6_precedes_37 : decode cX6_precedes 37 = .ok (.iconst 0, 1) := by decide +kernel
theorem dX6_precedes_38 : decode cX6_precedes 38 = .ok (.ireturn, 1) := by decide +kernel
theorem dX6_passSlot_0 : decode cX6_passSlot 0 = .ok (.aload_n 0, 1) := by decide +kernel
theorem dX6_passSlot_1 : decode cX6_passSlot 1 = .ok (.iload_n 1, 1) := by decide +kernel
theorem dX6_passSlot_2 : decode cX6_passSlot 2 = .ok (.ifCond .ne 10, 3) := by decide +kernel
theorem dX6_passSlot_5 : decode cX6_passSlot 5 = .ok (.aload_n 0, 1) := by decide +kernel
theorem dX6_passSlot_6 : decode cX6_passSlot 6 = .ok (.getfield 24, 3) := by decide +kernel
theorem dX6_passSlot_9 : decode cX6_passSlot 9 = .ok (.ifCond .ne 7, 3) := by decide +kernel
theorem dX6_passSlot_12 : decode cX6_passSlot 12 = .ok (.iconst 0, 1) := by decide +kernel
theorem dX6_passSlot_13 : decode cX6_passSlot 13 = .ok (.goto 9, 3) := by decide +kernel
theorem dX6_passSlot_16 : decode cX6_passSlot 16 = .ok (.aload_n 0, 1) := by decide +kernel
theorem dX6_passSlot_17 : decode cX6_passSlot 17 = .ok (.getfield 21, 3) := by decide +kernel
theorem dX6_passSlot_20 : decode cX6_passSlot 20 = .ok (.iconst 1, 1) := by decide +kernel
theorem dX6_passSlot_21 : decode cX6_passSlot 21 = .ok (.iadd, 1) := by decide +kernel
theorem dX6_passSlot_22 : decode cX6_passSlot 22 = .ok (.putfield 21, 3) := by decide +kernel
theorem dX6_passSlot_25 : decode cX6_passSlot 25 = .ok (.return_, 1) := by decide +kernel
theorem dX6_append_0 : decode cX6_append 0 = .ok (.aload_n 0, 1) := by decide +kernel
theorem dX6_append_1 : decode cX6_append 1 = .ok (.getfield 36, 3) := by decide +kernel
theorem dX6_append_4 : decode cX6_append 4 = .ok (.bipush 12, 2) := by decide +kernel
theorem dX6_append_6 : decode cX6_append 6 = .ok (.invokestatic 60, 3) := by decide +kernel
theorem dX6_append_9 : decode cX6_append 9 = .ok (.istore 6, 2) := by decide +kernel
theorem dX6_append_11 : decode cX6_append 11 = .ok (.aload_n 0, 1) := by decide +kernel
theorem dX6_append_12 : decode cX6_append 12 = .ok (.getfield 44, 3) := by decide +kernel
theorem dX6_append_15 : decode cX6_append 15 = .ok (.iload 6, 2) := by decide +kernel
theorem dX6_append_17 : decode cX6_append 17 = .ok (.aaload, 1) := by decide +kernel
theorem dX6_append_18 : decode cX6_append 18 = .ok (.astore 7, 2) := by decide +kernel
theorem dX6_append_20 : decode cX6_append 20 = .ok (.aload 7, 2) := by decide +kernel
theorem dX6_append_22 : decode cX6_append 22 = .ok (.iload_n 1, 1) := by decide +kernel
theorem dX6_append_23 : decode cX6_append 23 = .ok (.putfield 53, 3) := by decide +kernel
theorem dX6_append_26 : decode cX6_append 26 = .ok (.aload 7, 2) := by decide +kernel
theorem dX6_append_28 : decode cX6_append 28 = .ok (.iload_n 2, 1) := by decide +kernel
theorem dX6_append_29 : decode cX6_append 29 = .ok (.putfield 66, 3) := by decide +kernel
theorem dX6_append_32 : decode cX6_append 32 = .ok (.aload 7, 2) := by decide +kernel
theorem dX6_append_34 : decode cX6_append 34 = .ok (.iload_n 3, 1) := by decide +kernel
theorem dX6_append_35 : decode cX6_append 35 = .ok (.putfield 69, 3) := by decide +kernel
theorem dX6_append_38 : decode cX6_append 38 = .ok (.aload 7, 2) := by decide +kernel
theorem dX6_append_40 : decode cX6_append 40 = .ok (.iload 4, 2) := by decide +kernel
theorem dX6_append_42 : decode cX6_append 42 = .ok (.putfield 72, 3) := by decide +kernel
theorem dX6_append_45 : decode cX6_append 45 = .ok (.aload 7, 2) := by decide +kernel
theorem dX6_append_47 : decode cX6_append 47 = .ok (.iload 5, 2) := by decide +kernel
theorem dX6_append_49 : decode cX6_append 49 = .ok (.putfield 75, 3) := by decide +kernel
theorem dX6_append_52 : decode cX6_append 52 = .ok (.aload_n 0, 1) := by decide +kernel
theorem dX6_append_53 : decode cX6_append 53 = .ok (.iload 6, 2) := by decide +kernel
theorem dX6_append_55 : decode cX6_append 55 = .ok (.iconst 1, 1) := by decide +kernel
theorem dX6_append_56 : decode cX6_append 56 = .ok (.iadd, 1) := by decide +kernel
theorem dX6_append_57 : decode cX6_append 57 = .ok (.putfield 36, 3) := by decide +kernel
theorem dX6_append_60 : decode cX6_append 60 = .ok (.aload_n 0, 1) := by decide +kernel
theorem dX6_append_61 : decode cX6_append 61 = .ok (.dup, 1) := by decide +kernel
theorem dX6_append_62 : decode cX6_append 62 = .ok (.getfield 24, 3) := by decide +kernel
theorem dX6_append_65 : decode cX6_append 65 = .ok (.aload 7, 2) := by decide +kernel
theorem dX6_append_67 : decode cX6_append 67 = .ok (.invokevirtual 78, 3) := by decide +kernel
theorem dX6_append_70 : decode cX6_append 70 = .ok (.iadd, 1) := by decide +kernel
theorem dX6_append_71 : decode cX6_append 71 = .ok (.putfield 24, 3) := by decide +kernel
theorem dX6_append_74 : decode cX6_append 74 = .ok (.return_, 1) := by decide +kernel
theorem dX6_fill_0 : decode cX6_fill 0 = .ok (.aload_n 1, 1) := by decide +kernel
theorem dX6_fill_1 : decode cX6_fill 1 = .ok (.getfield 81, 3) := by decide +kernel
theorem dX6_fill_4 : decode cX6_fill 4 = .ok (.istore_n 3, 1) := by decide +kernel
theorem dX6_fill_5 : decode cX6_fill 5 = .ok (.aload_n 0, 1) := by decide +kernel
theorem dX6_fill_6 : decode cX6_fill 6 = .ok (.getfield 24, 3) := by decide +kernel
theorem dX6_fill_9 : decode cX6_fill 9 = .ok (.iload_n 3, 1) := by decide +kernel
theorem dX6_fill_10 : decode cX6_fill 10 = .ok (.if_icmp .ge 28, 3) := by decide +kernel
theorem dX6_fill_13 : decode cX6_fill 13 = .ok (.iconst 4, 1) := by decide +kernel
theorem dX6_fill_14 : decode cX6_fill 14 = .ok (.iload_n 3, 1) := by decide +kernel
theorem dX6_fill_15 : decode cX6_fill 15 = .ok (.aload_n 0, 1) := by decide +kernel
theorem dX6_fill_16 : decode cX6_fill 16 = .ok (.getfield 24, 3) := by decide +kernel
theorem dX6_fill_19 : decode cX6_fill 19 = .ok (.isub, 1) := by decide +kernel
theorem dX6_fill_20 : decode cX6_fill 20 = .ok (.invokestatic 84, 3) := by decide +kernel
theorem dX6_fill_23 : decode cX6_fill 23 = .ok (.istore 4, 2) := by decide +kernel
theorem dX6_fill_25 : decode cX6_fill 25 = .ok (.aload_n 0, 1) := by decide +kernel
theorem dX6_fill_26 : decode cX6_fill 26 = .ok (.bipush 15, 2) := by decide +kernel
theorem dX6_fill_28 : decode cX6_fill 28 = .ok (.iconst 0, 1) := by decide +kernel
theorem dX6_fill_29 : decode cX6_fill 29 = .ok (.iload 4, 2) := by decide +kernel
theorem dX6_fill_31 : decode cX6_fill 31 = .ok (.iconst 3, 1) := by decide +kernel
theorem dX6_fill_32 : decode cX6_fill 32 = .ok (.isub, 1) := by decide +kernel
theorem dX6_fill_33 : decode cX6_fill 33 = .ok (.iconst 0, 1) := by decide +kernel
theorem dX6_fill_34 : decode cX6_fill 34 = .ok (.iload_n 2, 1) := by decide +kernel
theorem dX6_fill_35 : decode cX6_fill 35 = .ok (.invokevirtual 87, 3) := by decide +kernel
theorem dX6_fill_38 : decode cX6_fill 38 = .ok (.sipush 255, 3) := by decide +kernel
theorem dX6_fill_41 : decode cX6_fill 41 = .ok (.istore 4, 2) := by decide +kernel
theorem dX6_fill_43 : decode cX6_fill 43 = .ok (.iconst 0, 1) := by decide +kernel
theorem dX6_fill_44 : decode cX6_fill 44 = .ok (.istore 5, 2) := by decide +kernel
theorem dX6_fill_46 : decode cX6_fill 46 = .ok (.iload 5, 2) := by decide +kernel
theorem dX6_fill_48 : decode cX6_fill 48 = .ok (.iload_n 3, 1) := by decide +kernel
theorem dX6_fill_49 : decode cX6_fill 49 = .ok (.if_icmp .ge 49, 3) := by decide +kernel
theorem dX6_fill_52 : decode cX6_fill 52 = .ok (.iload 5, 2) := by decide +kernel
theorem dX6_fill_54 : decode cX6_fill 54 = .ok (.bipush 40, 2) := by decide +kernel
theorem dX6_fill_56 : decode cX6_fill 56 = .ok (.if_icmp .ge 42, 3) := by decide +kernel
theorem dX6_fill_59 : decode cX6_fill 59 = .ok (.aload_n 0, 1) := by decide +kernel
theorem dX6_fill_60 : decode cX6_fill 60 = .ok (.getfield 39, 3) := by decide +kernel
theorem dX6_fill_63 : decode cX6_fill 63 = .ok (.ifCond .ne 15, 3) := by decide +kernel
theorem dX6_fill_66 : decode cX6_fill 66 = .ok (.iload 4, 2) := by decide +kernel
theorem dX6_fill_68 : decode cX6_fill 68 = .ok (.sipush 255, 3) := by decide +kernel
theorem dX6_fill_71 : decode cX6_fill 71 = .ok (.if_icmp .ne 7, 3) := by decide +kernel
theorem dX6_fill_74 : decode cX6_fill 74 = .ok (.iload 5, 2) := by decide +kernel
theorem dX6_fill_76 : decode cX6_fill 76 = .ok (.istore 4, 2) := by decide +kernel
theorem dX6_fill_78 : decode cX6_fill 78 = .ok (.aload_n 1, 1) := by decide +kernel
theorem dX6_fill_79 : decode cX6_fill 79 = .ok (.getfield 91, 3) := by decide +kernel
theorem dX6_fill_82 : decode cX6_fill 82 = .ok (.iconst 4, 1) := by decide +kernel
theorem dX6_fill_83 : decode cX6_fill 83 = .ok (.iload 5, 2) := by decide +kernel
theorem dX6_fill_85 : decode cX6_fill 85 = .ok (.iadd, 1) := by decide +kernel
theorem dX6_fill_86 : decode cX6_fill 86 = .ok (.aload_n 0, 1) := by decide +kernel
theorem dX6_fill_87 : decode cX6_fill 87 = .ok (.iload_n 2, 1) := by decide +kernel
theorem dX6_fill_88 : decode cX6_fill 88 = .ok (.invokevirtual 95, 3) := by decide +kernel
theorem dX6_fill_91 : decode cX6_fill 91 = .ok (.iastore, 1) := by decide +kernel
theorem dX6_fill_92 : decode cX6_fill 92 = .ok (.iinc 5 1, 3) := by decide +kernel
theorem dX6_fill_95 : decode cX6_fill 95 = .ok (.goto (-49), 3) := by decide +kernel
theorem dX6_fill_98 : decode cX6_fill 98 = .ok (.aload_n 1, 1) := by decide +kernel
theorem dX6_fill_99 : decode cX6_fill 99 = .ok (.getfield 91, 3) := by decide +kernel
theorem dX6_fill_102 : decode cX6_fill 102 = .ok (.iconst 2, 1) := by decide +kernel
theorem dX6_fill_103 : decode cX6_fill 103 = .ok (.aload_n 0, 1) := by decide +kernel
theorem dX6_fill_104 : decode cX6_fill 104 = .ok (.getfield 27, 3) := by decide +kernel
theorem dX6_fill_107 : decode cX6_fill 107 = .ok (.sipush 255, 3) := by decide +kernel
theorem dX6_fill_110 : decode cX6_fill 110 = .ok (.iand, 1) := by decide +kernel
theorem dX6_fill_111 : decode cX6_fill 111 = .ok (.iastore, 1) := by decide +kernel
theorem dX6_fill_112 : decode cX6_fill 112 = .ok (.aload_n 1, 1) := by decide +kernel
theorem dX6_fill_113 : decode cX6_fill 113 = .ok (.getfield 91, 3) := by decide +kernel
theorem dX6_fill_116 : decode cX6_fill 116 = .ok (.iconst 3, 1) := by decide +kernel
theorem dX6_fill_117 : decode cX6_fill 117 = .ok (.iload 4, 2) := by decide +kernel
theorem dX6_fill_119 : decode cX6_fill 119 = .ok (.iastore, 1) := by decide +kernel
theorem dX6_fill_120 : decode cX6_fill 120 = .ok (.aload_n 0, 1) := by decide +kernel
theorem dX6_fill_121 : decode cX6_fill 121 = .ok (.dup, 1) := by decide +kernel
theorem dX6_fill_122 : decode cX6_fill 122 = .ok (.getfield 27, 3) := by decide +kernel
theorem dX6_fill_125 : decode cX6_fill 125 = .ok (.iconst 1, 1) := by decide +kernel
theorem dX6_fill_126 : decode cX6_fill 126 = .ok (.iadd, 1) := by decide +kernel
theorem dX6_fill_127 : decode cX6_fill 127 = .ok (.putfield 27, 3) := by decide +kernel
theorem dX6_fill_130 : decode cX6_fill 130 = .ok (.return_, 1) := by decide +kernel
theorem dX6_takeByte_0 : decode cX6_takeByte 0 = .ok (.aload_n 0, 1) := by decide +kernel
theorem dX6_takeByte_1 : decode cX6_takeByte 1 = .ok (.getfield 44, 3) := by decide +kernel
theorem dX6_takeByte_4 : decode cX6_takeByte 4 = .ok (.iconst 0, 1) := by decide +kernel
theorem dX6_takeByte_5 : decode cX6_takeByte 5 = .ok (.aaload, 1) := by decide +kernel
theorem dX6_takeByte_6 : decode cX6_takeByte 6 = .ok (.astore_n 2, 1) := by decide +kernel
theorem dX6_takeByte_7 : decode cX6_takeByte 7 = .ok (.aload_n 2, 1) := by decide +kernel
theorem dX6_takeByte_8 : decode cX6_takeByte 8 = .ok (.aload_n 0, 1) := by decide +kernel
theorem dX6_takeByte_9 : decode cX6_takeByte 9 = .ok (.getfield 39, 3) := by decide +kernel
theorem dX6_takeByte_12 : decode cX6_takeByte 12 = .ok (.invokevirtual 99, 3) := by decide +kernel
theorem dX6_takeByte_15 : decode cX6_takeByte 15 = .ok (.istore_n 3, 1) := by decide +kernel
theorem dX6_takeByte_16 : decode cX6_takeByte 16 = .ok (.aload_n 0, 1) := by decide +kernel
theorem dX6_takeByte_17 : decode cX6_takeByte 17 = .ok (.dup, 1) := by decide +kernel
theorem dX6_takeByte_18 : decode cX6_takeByte 18 = .ok (.getfield 39, 3) := by decide +kernel
theorem dX6_takeByte_21 : decode cX6_takeByte 21 = .ok (.iconst 1, 1) := by decide +kernel
theorem dX6_takeByte_22 : decode cX6_takeByte 22 = .ok (.iadd, 1) := by decide +kernel
theorem dX6_takeByte_23 : decode cX6_takeByte 23 = .ok (.putfield 39, 3) := by decide +kernel
theorem dX6_takeByte_26 : decode cX6_takeByte 26 = .ok (.aload_n 0, 1) := by decide +kernel
theorem dX6_takeByte_27 : decode cX6_takeByte 27 = .ok (.dup, 1) := by decide +kernel
theorem dX6_takeByte_28 : decode cX6_takeByte 28 = .ok (.getfield 24, 3) := by decide +kernel
theorem dX6_takeByte_31 : decode cX6_takeByte 31 = .ok (.iconst 1, 1) := by decide +kernel
theorem dX6_takeByte_32 : decode cX6_takeByte 32 = .ok (.isub, 1) := by decide +kernel
theorem dX6_takeByte_33 : decode cX6_takeByte 33 = .ok (.putfield 24, 3) := by decide +kernel
theorem dX6_takeByte_36 : decode cX6_takeByte 36 = .ok (.aload_n 2, 1) := by decide +kernel
theorem dX6_takeByte_37 : decode cX6_takeByte 37 = .ok (.getfield 53, 3) := by decide +kernel
theorem dX6_takeByte_40 : decode cX6_takeByte 40 = .ok (.bipush 15, 2) := by decide +kernel
theorem dX6_takeByte_42 : decode cX6_takeByte 42 = .ok (.if_icmp .ne 13, 3) := by decide +kernel
theorem dX6_takeByte_45 : decode cX6_takeByte 45 = .ok (.aload_n 0, 1) := by decide +kernel
theorem dX6_takeByte_46 : decode cX6_takeByte 46 = .ok (.dup, 1) := by decide +kernel
theorem dX6_takeByte_47 : decode cX6_takeByte 47 = .ok (.getfield 30, 3) := by decide +kernel
theorem dX6_takeByte_50 : decode cX6_takeByte 50 = .ok (.iconst 1, 1) := by decide +kernel
theorem dX6_takeByte_51 : decode cX6_takeByte 51 = .ok (.iadd, 1) := by decide +kernel
theorem dX6_takeByte_52 : decode cX6_takeByte 52 = .ok (.putfield 30, 3) := by decide +kernel
theorem dX6_takeByte_55 : decode cX6_takeByte 55 = .ok (.aload_n 0, 1) := by decide +kernel
theorem dX6_takeByte_56 : decode cX6_takeByte 56 = .ok (.getfield 39, 3) := by decide +kernel
theorem dX6_takeByte_59 : decode cX6_takeByte 59 = .ok (.aload_n 2, 1) := by decide +kernel
theorem dX6_takeByte_60 : decode cX6_takeByte 60 = .ok (.invokevirtual 78, 3) := by decide +kernel
theorem dX6_takeByte_63 : decode cX6_takeByte 63 = .ok (.if_icmp .lt 33, 3) := by decide +kernel
theorem dX6_takeByte_66 : decode cX6_takeByte 66 = .ok (.aload_n 2, 1) := by decide +kernel
theorem dX6_takeByte_67 : decode cX6_takeByte 67 = .ok (.getfield 53, 3) := by decide +kernel
theorem dX6_takeByte_70 : decode cX6_takeByte 70 = .ok (.bipush 15, 2) := by decide +kernel
theorem dX6_takeByte_72 : decode cX6_takeByte 72 = .ok (.if_icmp .eq 20, 3) := by decide +kernel
theorem dX6_takeByte_75 : decode cX6_takeByte 75 = .ok (.aload_n 0, 1) := by decide +kernel
theorem dX6_takeByte_76 : decode cX6_takeByte 76 = .ok (.aload_n 0, 1) := by decide +kernel
theorem dX6_takeByte_77 : decode cX6_takeByte 77 = .ok (.getfield 33, 3) := by decide +kernel
theorem dX6_takeByte_80 : decode cX6_takeByte 80 = .ok (.iload_n 1, 1) := by decide +kernel
theorem dX6_takeByte_81 : decode cX6_takeByte 81 = .ok (.aload_n 2, 1) := by decide +kernel
theorem dX6_takeByte_82 : decode cX6_takeByte 82 = .ok (.getfield 75, 3) := by decide +kernel
theorem dX6_takeByte_85 : decode cX6_takeByte 85 = .ok (.isub, 1) := by decide +kernel
theorem dX6_takeByte_86 : decode cX6_takeByte 86 = .ok (.invokestatic 84, 3) := by decide +kernel
theorem dX6_takeByte_89 : decode cX6_takeByte 89 = .ok (.putfield 33, 3) := by decide +kernel
theorem dX6_takeByte_92 : decode cX6_takeByte 92 = .ok (.aload_n 0, 1) := by decide +kernel
theorem dX6_takeByte_93 : decode cX6_takeByte 93 = .ok (.invokevirtual 102, 3) := by decide +kernel
theorem dX6_takeByte_96 : decode cX6_takeByte 96 = .ok (.iload_n 3, 1) := by decide +kernel
theorem dX6_takeByte_97 : decode cX6_takeByte 97 = .ok (.ireturn, 1) := by decide +kernel
theorem dX6_removeHead_0 : decode cX6_removeHead 0 = .ok (.aload_n 0, 1) := by decide +kernel
theorem dX6_removeHead_1 : decode cX6_removeHead 1 = .ok (.getfield 44, 3) := by decide +kernel
theorem dX6_removeHead_4 : decode cX6_removeHead 4 = .ok (.iconst 0, 1) := by decide +kernel
theorem dX6_removeHead_5 : decode cX6_removeHead 5 = .ok (.aaload, 1) := by decide +kernel
theorem dX6_removeHead_6 : decode cX6_removeHead 6 = .ok (.astore_n 1, 1) := by decide +kernel
theorem dX6_removeHead_7 : decode cX6_removeHead 7 = .ok (.iconst 1, 1) := by decide +kernel
theorem dX6_removeHead_8 : decode cX6_removeHead 8 = .ok (.istore_n 2, 1) := by decide +kernel
theorem dX6_removeHead_9 : decode cX6_removeHead 9 = .ok (.iload_n 2, 1) := by decide +kernel
theorem dX6_removeHead_10 : decode cX6_removeHead 10 = .ok (.aload_n 0, 1) := by decide +kernel
theorem dX6_removeHead_11 : decode cX6_removeHead 11 = .ok (.getfield 36, 3) := by decide +kernel
theorem dX6_removeHead_14 : decode cX6_removeHead 14 = .ok (.if_icmp .ge 29, 3) := by decide +kernel
theorem dX6_removeHead_17 : decode cX6_removeHead 17 = .ok (.iload_n 2, 1) := by decide +kernel
theorem dX6_removeHead_18 : decode cX6_removeHead 18 = .ok (.bipush 13, 2) := by decide +kernel
theorem dX6_removeHead_20 : decode cX6_removeHead 20 = .ok (.if_icmp .ge 23, 3) := by decide +kernel
theorem dX6_removeHead_23 : decode cX6_removeHead 23 = .ok (.aload_n 0, 1) := by decide +kernel
theorem dX6_removeHead_24 : decode cX6_removeHead 24 = .ok (.getfield 44, 3) := by decide +kernel
theorem dX6_removeHead_27 : decode cX6_removeHead 27 = .ok (.iload_n 2, 1) := by decide +kernel
theorem dX6_removeHead_28 : decode cX6_removeHead 28 = .ok (.iconst 1, 1) := by decide +kernel
theorem dX6_removeHead_29 : decode cX6_removeHead 29 = .ok (.isub, 1) := by decide +kernel
theorem dX6_removeHead_30 : decode cX6_removeHead 30 = .ok (.aload_n 0, 1) := by decide +kernel
theorem dX6_removeHead_31 : decode cX6_removeHead 31 = .ok (.getfield 44, 3) := by decide +kernel
theorem dX6_removeHead_34 : decode cX6_removeHead 34 = .ok (.iload_n 2, 1) := by decide +kernel
theorem dX6_removeHead_35 : decode cX6_removeHead 35 = .ok (.aaload, 1) := by decide +kernel
theorem dX6_removeHead_36 : decode cX6_removeHead 36 = .ok (.aastore, 1) := by decide +kernel
theorem dX6_removeHead_37 : decode cX6_removeHead 37 = .ok (.iinc 2 1, 3) := by decide +kernel
theorem dX6_removeHead_40 : decode cX6_removeHead 40 = .ok (.goto (-31), 3) := by decide +kernel
theorem dX6_removeHead_43 : decode cX6_removeHead 43 = .ok (.aload_n 0, 1) := by decide +kernel
theorem dX6_removeHead_44 : decode cX6_removeHead 44 = .ok (.getfield 36, 3) := by decide +kernel
theorem dX6_removeHead_47 : decode cX6_removeHead 47 = .ok (.iconst 1, 1) := by decide +kernel
theorem dX6_removeHead_48 : decode cX6_removeHead 48 = .ok (.isub, 1) := by decide +kernel
theorem dX6_removeHead_49 : decode cX6_removeHead 49 = .ok (.istore_n 2, 1) := by decide +kernel
theorem dX6_removeHead_50 : decode cX6_removeHead 50 = .ok (.iload_n 2, 1) := by decide +kernel
theorem dX6_removeHead_51 : decode cX6_removeHead 51 = .ok (.ifCond .lt 21, 3) := by decide +kernel
theorem dX6_removeHead_54 : decode cX6_removeHead 54 = .ok (.iload_n 2, 1) := by decide +kernel
theorem dX6_removeHead_55 : decode cX6_removeHead 55 = .ok (.bipush 13, 2) := by decide +kernel
theorem dX6_removeHead_57 : decode cX6_removeHead 57 = .ok (.if_icmp .ge 15, 3) := by decide +kernel
theorem dX6_removeHead_60 : decode cX6_removeHead 60 = .ok (.aload_n 0, 1) := by decide +kernel
theorem dX6_removeHead_61 : decode cX6_removeHead 61 = .ok (.getfield 44, 3) := by decide +kernel
theorem dX6_removeHead_64 : decode cX6_removeHead 64 = .ok (.iload_n 2, 1) := by decide +kernel
theorem dX6_removeHead_65 : decode cX6_removeHead 65 = .ok (.aload_n 1, 1) := by decide +kernel
theorem dX6_removeHead_66 : decode cX6_removeHead 66 = .ok (.aastore, 1) := by decide +kernel
theorem dX6_removeHead_67 : decode cX6_removeHead 67 = .ok (.aload_n 0, 1) := by decide +kernel
theorem dX6_removeHead_68 : decode cX6_removeHead 68 = .ok (.iload_n 2, 1) := by decide +kernel
theorem dX6_removeHead_69 : decode cX6_removeHead 69 = .ok (.putfield 36, 3) := by decide +kernel
theorem dX6_removeHead_72 : decode cX6_removeHead 72 = .ok (.aload_n 0, 1) := by decide +kernel
theorem dX6_removeHead_73 : decode cX6_removeHead 73 = .ok (.iconst 0, 1) := by decide +kernel
theorem dX6_removeHead_74 : decode cX6_removeHead 74 = .ok (.putfield 39, 3) := by decide +kernel
theorem dX6_removeHead_77 : decode cX6_removeHead 77 = .ok (.return_, 1) := by decide +kernel
theorem dX7_init_0 : decode cX7_init 0 = .ok (.aload_n 0, 1) := by decide +kernel
theorem dX7_init_1 : decode cX7_init 1 = .ok (.invokespecial 3, 3) := by decide +kernel
theorem dX7_init_4 : decode cX7_init 4 = .ok (.aload_n 0, 1) := by decide +kernel
theorem dX7_init_5 : decode cX7_init 5 = .ok (.bipush 16, 2) := by decide +kernel
theorem dX7_init_7 : decode cX7_init 7 = .ok (.putfield 9, 3) := by decide +kernel
theorem dX7_init_10 : decode cX7_init 10 = .ok (.aload_n 0, 1) := by decide +kernel
theorem dX7_init_11 : decode cX7_init 11 = .ok (.iconst 0, 1) := by decide +kernel
theorem dX7_init_12 : decode cX7_init 12 = .ok (.putfield 15, 3) := by decide +kernel
theorem dX7_init_15 : decode cX7_init 15 = .ok (.aload_n 0, 1) := by decide +kernel
theorem dX7_init_16 : decode cX7_init 16 = .ok (.sipush 250, 3) := by decide +kernel
theorem dX7_init_19 : decode cX7_init 19 = .ok (.putfield 18, 3) := by decide +kernel
theorem dX7_init_22 : decode cX7_init 22 = .ok (.aload_n 0, 1) := by decide +kernel
theorem dX7_init_23 : decode cX7_init 23 = .ok (.iconst 0, 1) := by decide +kernel
theorem dX7_init_24 : decode cX7_init 24 = .ok (.putfield 21, 3) := by decide +kernel
theorem dX7_init_27 : decode cX7_init 27 = .ok (.aload_n 0, 1) := by decide +kernel
theorem dX7_init_28 : decode cX7_init 28 = .ok (.iconst 0, 1) := by decide +kernel
theorem dX7_init_29 : decode cX7_init 29 = .ok (.putfield 24, 3) := by decide +kernel
theorem dX7_init_32 : decode cX7_init 32 = .ok (.aload_n 0, 1) := by decide +kernel
theorem dX7_init_33 : decode cX7_init 33 = .ok (.bipush 15, 2) := by decide +kernel
theorem dX7_init_35 : decode cX7_init 35 = .ok (.newarray .int, 2) := by decide +kernel
theorem dX7_init_37 : decode cX7_init 37 = .ok (.putfield 27, 3) := by decide +kernel
theorem dX7_init_40 : decode cX7_init 40 = .ok (.aload_n 0, 1) := by decide +kernel
theorem dX7_init_41 : decode cX7_init 41 = .ok (.iconst 4, 1) := by decide +kernel
theorem dX7_init_42 : decode cX7_init 42 = .ok (.anewarray 31, 3) := by decide +kernel
theorem dX7_init_45 : decode cX7_init 45 = .ok (.putfield 33, 3) := by decide +kernel
theorem dX7_init_48 : decode cX7_init 48 = .ok (.aload_n 0, 1) := by decide +kernel
theorem dX7_init_49 : decode cX7_init 49 = .ok (.new 37, 3) := by decide +kernel
theorem dX7_init_52 : decode cX7_init 52 = .ok (.dup, 1) := by decide +kernel
theorem dX7_init_53 : decode cX7_init 53 = .ok (.invokespecial 39, 3) := by decide +kernel
theorem dX7_init_56 : decode cX7_init 56 = .ok (.putfield 40, 3) := by decide +kernel
theorem dX7_init_59 : decode cX7_init 59 = .ok (.aload_n 0, 1) := by decide +kernel
theorem dX7_init_60 : decode cX7_init 60 = .ok (.new 44, 3) := by decide +kernel
theorem dX7_init_63 : decode cX7_init 63 = .ok (.dup, 1) := by decide +kernel
theorem dX7_init_64 : decode cX7_init 64 = .ok (.invokespecial 46, 3) := by decide +kernel
theorem dX7_init_67 : decode cX7_init 67 = .ok (.putfield 47, 3) := by decide +kernel
theorem dX7_init_70 : decode cX7_init 70 = .ok (.iconst 0, 1) := by decide +kernel
theorem dX7_init_71 : decode cX7_init 71 = .ok (.istore_n 1, 1) := by decide +kernel
theorem dX7_init_72 : decode cX7_init 72 = .ok (.iload_n 1, 1) := by decide +kernel
theorem dX7_init_73 : decode cX7_init 73 = .ok (.iconst 4, 1) := by decide +kernel
theorem dX7_init_74 : decode cX7_init 74 = .ok (.if_icmp .ge 22, 3) := by decide +kernel
theorem dX7_init_77 : decode cX7_init 77 = .ok (.aload_n 0, 1) := by decide +kernel
theorem dX7_init_78 : decode cX7_init 78 = .ok (.getfield 33, 3) := by decide +kernel
theorem dX7_init_81 : decode cX7_init 81 = .ok (.iload_n 1, 1) := by decide +kernel
theorem dX7_init_82 : decode cX7_init 82 = .ok (.new 31, 3) := by decide +kernel
theorem dX7_init_85 : decode cX7_init 85 = .ok (.dup, 1) := by decide +kernel
theorem dX7_init_86 : decode cX7_init 86 = .ok (.invokespecial 51, 3) := by decide +kernel
theorem dX7_init_89 : decode cX7_init 89 = .ok (.aastore, 1) := by decide +kernel
theorem dX7_init_90 : decode cX7_init 90 = .ok (.iinc 1 1, 3) := by decide +kernel
theorem dX7_init_93 : decode cX7_init 93 = .ok (.goto (-21), 3) := by decide +kernel
theorem dX7_init_96 : decode cX7_init 96 = .ok (.return_, 1) := by decide +kernel
theorem dX7_copyFrom_0 : decode cX7_copyFrom 0 = .ok (.aload_n 0, 1) := by decide +kernel
theorem dX7_copyFrom_1 : decode cX7_copyFrom 1 = .ok (.aload_n 1, 1) := by decide +kernel
theorem dX7_copyFrom_2 : decode cX7_copyFrom 2 = .ok (.getfield 9, 3) := by decide +kernel
theorem dX7_copyFrom_5 : decode cX7_copyFrom 5 = .ok (.putfield 9, 3) := by decide +kernel
theorem dX7_copyFrom_8 : decode cX7_copyFrom 8 = .ok (.aload_n 0, 1) := by decide +kernel
theorem dX7_copyFrom_9 : decode cX7_copyFrom 9 = .ok (.aload_n 1, 1) := by decide +kernel
theorem dX7_copyFrom_10 : decode cX7_copyFrom 10 = .ok (.getfield 15, 3) := by decide +kernel
theorem dX7_copyFrom_13 : decode cX7_copyFrom 13 = .ok (.putfield 15, 3) := by decide +kernel
theorem dX7_copyFrom_16 : decode cX7_copyFrom 16 = .ok (.aload_n 0, 1) := by decide +kernel
theorem dX7_copyFrom_17 : decode cX7_copyFrom 17 = .ok (.aload_n 1, 1) := by decide +kernel
theorem dX7_copyFrom_18 : decode cX7_copyFrom 18 = .ok (.getfield 18, 3) := by decide +kernel
theorem dX7_copyFrom_21 : decode cX7_copyFrom 21 = .ok (.putfield 18, 3) := by decide +kernel
theorem dX7_copyFrom_24 : decode cX7_copyFrom 24 = .ok (.aload_n 0, 1) := by decide +kernel
theorem dX7_copyFrom_25 : decode cX7_copyFrom 25 = .ok (.aload_n 1, 1) := by decide +kernel
theorem dX7_copyFrom_26 : decode cX7_copyFrom 26 = .ok (.getfield 21, 3) := by decide +kernel
theorem dX7_copyFrom_29 : decode cX7_copyFrom 29 = .ok (.putfield 21, 3) := by decide +kernel
theorem dX7_copyFrom_32 : decode cX7_copyFrom 32 = .ok (.aload_n 0, 1) := by decide +kernel
theorem dX7_copyFrom_33 : decode cX7_copyFrom 33 = .ok (.aload_n 1, 1) := by decide +kernel
theorem dX7_copyFrom_34 : decode cX7_copyFrom 34 = .ok (.getfield 24, 3) := by decide +kernel
theorem dX7_copyFrom_37 : decode cX7_copyFrom 37 = .ok (.putfield 24, 3) := by decide +kernel
theorem dX7_copyFrom_40 : decode cX7_copyFrom 40 = .ok (.aload_n 1, 1) := by decide +kernel
theorem dX7_copyFrom_41 : decode cX7_copyFrom 41 = .ok (.getfield 27, 3) := by decide +kernel
theorem dX7_copyFrom_44 : decode cX7_copyFrom 44 = .ok (.iconst 0, 1) := by decide +kernel
theorem dX7_copyFrom_45 : decode cX7_copyFrom 45 = .ok (.aload_n 0, 1) := by decide +kernel
theorem dX7_copyFrom_46 : decode cX7_copyFrom 46 = .ok (.getfield 27, 3) := by decide +kernel
theorem dX7_copyFrom_49 : decode cX7_copyFrom 49 = .ok (.iconst 0, 1) := by decide +kernel
theorem dX7_copyFrom_50 : decode cX7_copyFrom 50 = .ok (.bipush 15, 2) := by decide +kernel
theorem dX7_copyFrom_52 : decode cX7_copyFrom 52 = .ok (.invokestatic 52, 3) := by decide +kernel
theorem dX7_copyFrom_55 : decode cX7_copyFrom 55 = .ok (.iconst 0, 1) := by decide +kernel
theorem dX7_copyFrom_56 : decode cX7_copyFrom 56 = .ok (.istore_n 2, 1) := by decide +kernel
theorem dX7_copyFrom_57 : decode cX7_copyFrom 57 = .ok (.iload_n 2, 1) := by decide +kernel
theorem dX7_copyFrom_58 : decode cX7_copyFrom 58 = .ok (.iconst 4, 1) := by decide +kernel
theorem dX7_copyFrom_59 : decode cX7_copyFrom 59 = .ok (.if_icmp .ge 24, 3) := by decide +kernel
theorem dX7_copyFrom_62 : decode cX7_copyFrom 62 = .ok (.aload_n 0, 1) := by decide +kernel
theorem dX7_copyFrom_63 : decode cX7_copyFrom 63 = .ok (.getfield 33, 3) := by decide +kernel
theorem dX7_copyFrom_66 : decode cX7_copyFrom 66 = .ok (.iload_n 2, 1) := by decide +kernel
theorem dX7_copyFrom_67 : decode cX7_copyFrom 67 = .ok (.aaload, 1) := by decide +kernel
theorem dX7_copyFrom_68 : decode cX7_copyFrom 68 = .ok (.aload_n 1, 1) := by decide +kernel
theorem dX7_copyFrom_69 : decode cX7_copyFrom 69 = .ok (.getfield 33, 3) := by decide +kernel
theorem dX7_copyFrom_72 : decode cX7_copyFrom 72 = .ok (.iload_n 2, 1) := by decide +kernel
theorem dX7_copyFrom_73 : decode cX7_copyFrom 73 = .ok (.aaload, 1) := by decide +kernel
theorem dX7_copyFrom_74 : decode cX7_copyFrom 74 = .ok (.invokevirtual 58, 3) := by decide +kernel
theorem dX7_copyFrom_77 : decode cX7_copyFrom 77 = .ok (.iinc 2 1, 3) := by decide +kernel
theorem dX7_copyFrom_80 : decode cX7_copyFrom 80 = .ok (.goto (-23), 3) := by decide +kernel
theorem dX7_copyFrom_83 : decode cX7_copyFrom 83 = .ok (.aload_n 0, 1) := by decide +kernel
theorem dX7_copyFrom_84 : decode cX7_copyFrom 84 = .ok (.getfield 40, 3) := by decide +kernel
theorem dX7_copyFrom_87 : decode cX7_copyFrom 87 = .ok (.aload_n 1, 1) := by decide +kernel
theorem dX7_copyFrom_88 : decode cX7_copyFrom 88 = .ok (.getfield 40, 3) := by decide +kernel
theorem dX7_copyFrom_91 : decode cX7_copyFrom 91 = .ok (.invokevirtual 62, 3) := by decide +kernel
theorem dX7_copyFrom_94 : decode cX7_copyFrom 94 = .ok (.aload_n 0, 1) := by decide +kernel
theorem dX7_copyFrom_95 : decode cX7_copyFrom 95 = .ok (.getfield 47, 3) := by decide +kernel
theorem dX7_copyFrom_98 : decode cX7_copyFrom 98 = .ok (.aload_n 1, 1) := by decide +kernel
theorem dX7_copyFrom_99 : decode cX7_copyFrom 99 = .ok (.getfield 47, 3) := by decide +kernel
theorem dX7_copyFrom_102 : decode cX7_copyFrom 102 = .ok (.invokevirtual 65, 3) := by decide +kernel
theorem dX7_copyFrom_105 : decode cX7_copyFrom 105 = .ok (.return_, 1) := by decide +kernel
theorem dX7_hasPendingBytes_0 : decode cX7_hasPendingBytes 0 = .ok (.iconst 0, 1) := by decide +kernel
theorem dX7_hasPendingBytes_1 : decode cX7_hasPendingBytes 1 = .ok (.istore_n 1, 1) := by decide +kernel
theorem dX7_hasPendingBytes_2 : decode cX7_hasPendingBytes 2 = .ok (.iload_n 1, 1) := by decide +kernel
theorem dX7_hasPendingBytes_3 : decode cX7_hasPendingBytes 3 = .ok (.iconst 4, 1) := by decide +kernel
theorem dX7_hasPendingBytes_4 : decode cX7_hasPendingBytes 4 = .ok (.if_icmp .ge 23, 3) := by decide +kernel
theorem dX7_hasPendingBytes_7 : decode cX7_hasPendingBytes 7 = .ok (.aload_n 0, 1) := by decide +kernel
theorem dX7_hasPendingBytes_8 : decode cX7_hasPendingBytes 8 = .ok (.getfield 33, 3) := by decide +kernel
theorem dX7_hasPendingBytes_11 : decode cX7_hasPendingBytes 11 = .ok (.iload_n 1, 1) := by decide +kernel
theorem dX7_hasPendingBytes_12 : decode cX7_hasPendingBytes 12 = .ok (.aaload, 1) := by decide +kernel
theorem dX7_hasPendingBytes_13 : decode cX7_hasPendingBytes 13 = .ok (.getfield 68, 3) := by decide +kernel
theorem dX7_hasPendingBytes_16 : decode cX7_hasPendingBytes 16 = .ok (.ifCond .le 5, 3) := by decide +kernel
theorem dX7_hasPendingBytes_19 : decode cX7_hasPendingBytes 19 = .ok (.iconst 1, 1) := by decide +kernel
theorem dX7_hasPendingBytes_20 : decode cX7_hasPendingBytes 20 = .ok (.ireturn, 1) := by decide +kernel
theorem dX7_hasPendingBytes_21 : decode cX7_hasPendingBytes 21 = .ok (.iinc 1 1, 3) := by decide +kernel
theorem dX7_hasPendingBytes_24 : decode cX7_hasPendingBytes 24 = .ok (.goto (-22), 3) := by decide +kernel
theorem dX7_hasPendingBytes_27 : decode cX7_hasPendingBytes 27 = .ok (.iconst 0, 1) := by decide +kernel
theorem dX7_hasPendingBytes_28 : decode cX7_hasPendingBytes 28 = .ok (.ireturn, 1) := by decide +kernel
theorem dX7_enqueue_0 : decode cX7_enqueue 0 = .ok (.aload_n 0, 1) := by decide +kernel
theorem dX7_enqueue_1 : decode cX7_enqueue 1 = .ok (.getfield 27, 3) := by decide +kernel
theorem dX7_enqueue_4 : decode cX7_enqueue 4 = .ok (.iload_n 2, 1) := by decide +kernel
theorem dX7_enqueue_5 : decode cX7_enqueue 5 = .ok (.iaload, 1) := by decide +kernel
theorem dX7_enqueue_6 : decode cX7_enqueue 6 = .ok (.istore 5, 2) := by decide +kernel
theorem dX7_enqueue_8 : decode cX7_enqueue 8 = .ok (.aload_n 0, 1) := by decide +kernel
theorem dX7_enqueue_9 : decode cX7_enqueue 9 = .ok (.getfield 27, 3) := by decide +kernel
theorem dX7_enqueue_12 : decode cX7_enqueue 12 = .ok (.iload_n 2, 1) := by decide +kernel
theorem dX7_enqueue_13 : decode cX7_enqueue 13 = .ok (.iload 5, 2) := by decide +kernel
theorem dX7_enqueue_15 : decode cX7_enqueue 15 = .ok (.iconst 1, 1) := by decide +kernel
theorem dX7_enqueue_16 : decode cX7_enqueue 16 = .ok (.iadd, 1) := by decide +kernel
theorem dX7_enqueue_17 : decode cX7_enqueue 17 = .ok (.sipush 255, 3) := by decide +kernel
theorem dX7_enqueue_20 : decode cX7_enqueue 20 = .ok (.iand, 1) := by decide +kernel
theorem dX7_enqueue_21 : decode cX7_enqueue 21 = .ok (.iastore, 1) := by decide +kernel
theorem dX7_enqueue_22 : decode cX7_enqueue 22 = .ok (.aload_n 0, 1) := by decide +kernel
theorem dX7_enqueue_23 : decode cX7_enqueue 23 = .ok (.getfield 33, 3) := by decide +kernel
theorem dX7_enqueue_26 : decode cX7_enqueue 26 = .ok (.iload_n 1, 1) := by decide +kernel
theorem dX7_enqueue_27 : decode cX7_enqueue 27 = .ok (.aaload, 1) := by decide +kernel
theorem dX7_enqueue_28 : decode cX7_enqueue 28 = .ok (.iload_n 2, 1) := by decide +kernel
theorem dX7_enqueue_29 : decode cX7_enqueue 29 = .ok (.iload 5, 2) := by decide +kernel
theorem dX7_enqueue_31 : decode cX7_enqueue 31 = .ok (.iload_n 3, 1) := by decide +kernel
theorem dX7_enqueue_32 : decode cX7_enqueue 32 = .ok (.iload 4, 2) := by decide +kernel
theorem dX7_enqueue_34 : decode cX7_enqueue 34 = .ok (.aload_n 0, 1) := by decide +kernel
theorem dX7_enqueue_35 : decode cX7_enqueue 35 = .ok (.getfield 21, 3) := by decide +kernel
theorem dX7_enqueue_38 : decode cX7_enqueue 38 = .ok (.invokevirtual 71, 3) := by decide +kernel
theorem dX7_enqueue_41 : decode cX7_enqueue 41 = .ok (.iload 5, 2) := by decide +kernel
theorem dX7_enqueue_43 : decode cX7_enqueue 43 = .ok (.ireturn, 1) := by decide +kernel
theorem dX7_boardTime_0 : decode cX7_boardTime 0 = .ok (.ldc2_w 75, 3) := by decide +kernel
theorem dX7_boardTime_3 : decode cX7_boardTime 3 = .ok (.aload_n 0, 1) := by decide +kernel
theorem dX7_boardTime_4 : decode cX7_boardTime 4 = .ok (.getfield 21, 3) := by decide +kernel
theorem dX7_boardTime_7 : decode cX7_boardTime 7 = .ok (.i2l, 1) := by decide +kernel
theorem dX7_boardTime_8 : decode cX7_boardTime 8 = .ok (.lmul, 1) := by decide +kernel
theorem dX7_boardTime_9 : decode cX7_boardTime 9 = .ok (.aload_n 0, 1) := by decide +kernel
theorem dX7_boardTime_10 : decode cX7_boardTime 10 = .ok (.getfield 21, 3) := by decide +kernel
theorem dX7_boardTime_13 : decode cX7_boardTime 13 = .ok (.i2l, 1) := by decide +kernel
theorem dX7_boardTime_14 : decode cX7_boardTime 14 = .ok (.aload_n 0, 1) := by decide +kernel
theorem dX7_boardTime_15 : decode cX7_boardTime 15 = .ok (.getfield 15, 3) := by decide +kernel
theorem dX7_boardTime_18 : decode cX7_boardTime 18 = .ok (.i2l, 1) := by decide +kernel
theorem dX7_boardTime_19 : decode cX7_boardTime 19 = .ok (.lmul, 1) := by decide +kernel
theorem dX7_boardTime_20 : decode cX7_boardTime 20 = .ok (.ldc2_w 77, 3) := by decide +kernel
theorem dX7_boardTime_23 : decode cX7_boardTime 23 = .ok (.invokestatic 79, 3) := by decide +kernel
theorem dX7_boardTime_26 : decode cX7_boardTime 26 = .ok (.ladd, 1) := by decide +kernel
theorem dX7_boardTime_27 : decode cX7_boardTime 27 = .ok (.lreturn, 1) := by decide +kernel
theorem dX7_groundArrival_0 : decode cX7_groundArrival 0 = .ok (.ldc2_w 75, 3) := by decide +kernel
theorem dX7_groundArrival_3 : decode cX7_groundArrival 3 = .ok (.aload_n 0, 1) := by decide +kernel
theorem dX7_groundArrival_4 : decode cX7_groundArrival 4 = .ok (.getfield 21, 3) := by decide +kernel
theorem dX7_groundArrival_7 : decode cX7_groundArrival 7 = .ok (.i2l, 1) := by decide +kernel
theorem dX7_groundArrival_8 : decode cX7_groundArrival 8 = .ok (.lmul, 1) := by decide +kernel
theorem dX7_groundArrival_9 : decode cX7_groundArrival 9 = .ok (.aload_n 0, 1) := by decide +kernel
theorem dX7_groundArrival_10 : decode cX7_groundArrival 10 = .ok (.getfield 18, 3) := by decide +kernel
theorem dX7_groundArrival_13 : decode cX7_groundArrival 13 = .ok (.i2l, 1) := by decide +kernel
theorem dX7_groundArrival_14 : decode cX7_groundArrival 14 = .ok (.ladd, 1) := by decide +kernel
theorem dX7_groundArrival_15 : decode cX7_groundArrival 15 = .ok (.lreturn, 1) := by decide +kernel
theorem dX7_chosenChannel_0 : decode cX7_chosenChannel 0 = .ok (.iconst (-1), 1) := by decide +kernel
theorem dX7_chosenChannel_1 : decode cX7_chosenChannel 1 = .ok (.istore_n 1, 1) := by decide +kernel
theorem dX7_chosenChannel_2 : decode cX7_chosenChannel 2 = .ok (.iconst 0, 1) := by decide +kernel
theorem dX7_chosenChannel_3 : decode cX7_chosenChannel 3 = .ok (.istore_n 2, 1) := by decide +kernel
theorem dX7_chosenChannel_4 : decode cX7_chosenChannel 4 = .ok (.iload_n 2, 1) := by decide +kernel
theorem dX7_chosenChannel_5 : decode cX7_chosenChannel 5 = .ok (.iconst 4, 1) := by decide +kernel
theorem dX7_chosenChannel_6 : decode cX7_chosenChannel 6 = .ok (.if_icmp .ge 46, 3) := by decide +kernel
theorem dX7_chosenChannel_9 : decode cX7_chosenChannel 9 = .ok (.aload_n 0, 1) := by decide +kernel
theorem dX7_chosenChannel_10 : decode cX7_chosenChannel 10 = .ok (.getfield 33, 3) := by decide +kernel
theorem dX7_chosenChannel_13 : decode cX7_chosenChannel 13 = .ok (.iload_n 2, 1) := by decide +kernel
theorem dX7_chosenChannel_14 : decode cX7_chosenChannel 14 = .ok (.aaload, 1) := by decide +kernel
theorem dX7_chosenChannel_15 : decode cX7_chosenChannel 15 = .ok (.invokevirtual 85, 3) := by decide +kernel
theorem dX7_chosenChannel_18 : decode cX7_chosenChannel 18 = .ok (.ifCond .eq 28, 3) := by decide +kernel
theorem dX7_chosenChannel_21 : decode cX7_chosenChannel 21 = .ok (.iload_n 1, 1) := by decide +kernel
theorem dX7_chosenChannel_22 : decode cX7_chosenChannel 22 = .ok (.iconst (-1), 1) := by decide +kernel
theorem dX7_chosenChannel_23 : decode cX7_chosenChannel 23 = .ok (.if_icmp .eq 21, 3) := by decide +kernel
theorem dX7_chosenChannel_26 : decode cX7_chosenChannel 26 = .ok (.aload_n 0, 1) := by decide +kernel
theorem dX7_chosenChannel_27 : decode cX7_chosenChannel 27 = .ok (.getfield 33, 3) := by decide +kernel
theorem dX7_chosenChannel_30 : decode cX7_chosenChannel 30 = .ok (.iload_n 2, 1) := by decide +kernel
theorem dX7_chosenChannel_31 : decode cX7_chosenChannel 31 = .ok (.aaload, 1) := by decide +kernel
theorem dX7_chosenChannel_32 : decode cX7_chosenChannel 32 = .ok (.aload_n 0, 1) := by decide +kernel
theorem dX7_chosenChannel_33 : decode cX7_chosenChannel 33 = .ok (.getfield 33, 3) := by decide +kernel
theorem dX7_chosenChannel_36 : decode cX7_chosenChannel 36 = .ok (.iload_n 1, 1) := by decide +kernel
theorem dX7_chosenChannel_37 : decode cX7_chosenChannel 37 = .ok (.aaload, 1) := by decide +kernel
theorem dX7_chosenChannel_38 : decode cX7_chosenChannel 38 = .ok (.invokevirtual 89, 3) := by decide +kernel
theorem dX7_chosenChannel_41 : decode cX7_chosenChannel 41 = .ok (.ifCond .eq 5, 3) := by decide +kernel
theorem dX7_chosenChannel_44 : decode cX7_chosenChannel 44 = .ok (.iload_n 2, 1) := by decide +kernel
theorem dX7_chosenChannel_45 : decode cX7_chosenChannel 45 = .ok (.istore_n 1, 1) := by decide +kernel
theorem dX7_chosenChannel_46 : decode cX7_chosenChannel 46 = .ok (.iinc 2 1, 3) := by decide +kernel
theorem dX7_chosenChannel_49 : decode cX7_chosenChannel 49 = .ok (.goto (-45), 3) := by decide +kernel
theorem dX7_chosenChannel_52 : decode cX7_chosenChannel 52 = .ok (.iload_n 1, 1) := by decide +kernel
theorem dX7_chosenChannel_53 : decode cX7_chosenChannel 53 = .ok (.iconst (-1), 1) := by decide +kernel
theorem dX7_chosenChannel_54 : decode cX7_chosenChannel 54 = .ok (.if_icmp .ne 10, 3) := by decide +kernel
theorem dX7_chosenChannel_57 : decode cX7_chosenChannel 57 = .ok (.aload_n 0, 1) := by decide +kernel
theorem dX7_chosenChannel_58 : decode cX7_chosenChannel 58 = .ok (.invokevirtual 93, 3) := by decide +kernel
theorem dX7_chosenChannel_61 : decode cX7_chosenChannel 61 = .ok (.goto 4, 3) := by decide +kernel
theorem dX7_chosenChannel_64 : decode cX7_chosenChannel 64 = .ok (.iload_n 1, 1) := by decide +kernel
theorem dX7_chosenChannel_65 : decode cX7_chosenChannel 65 = .ok (.ireturn, 1) := by decide +kernel
theorem dX7_readyChannel_0 : decode cX7_readyChannel 0 = .ok (.iconst (-1), 1) := by decide +kernel
theorem dX7_readyChannel_1 : decode cX7_readyChannel 1 = .ok (.istore_n 1, 1) := by decide +kernel
theorem dX7_readyChannel_2 : decode cX7_readyChannel 2 = .ok (.iconst 0, 1) := by decide +kernel
theorem dX7_readyChannel_3 : decode cX7_readyChannel 3 = .ok (.istore_n 2, 1) := by decide +kernel
theorem dX7_readyChannel_4 : decode cX7_readyChannel 4 = .ok (.iload_n 2, 1) := by decide +kernel
theorem dX7_readyChannel_5 : decode cX7_readyChannel 5 = .ok (.iconst 4, 1) := by decide +kernel
theorem dX7_readyChannel_6 : decode cX7_readyChannel 6 = .ok (.if_icmp .ge 50, 3) := by decide +kernel
theorem dX7_readyChannel_9 : decode cX7_readyChannel 9 = .ok (.aload_n 0, 1) := by decide +kernel
theorem dX7_readyChannel_10 : decode cX7_readyChannel 10 = .ok (.getfield 33, 3) := by decide +kernel
theorem dX7_readyChannel_13 : decode cX7_readyChannel 13 = .ok (.iload_n 2, 1) := by decide +kernel
theorem dX7_readyChannel_14 : decode cX7_readyChannel 14 = .ok (.aaload, 1) := by decide +kernel
theorem dX7_readyChannel_15 : decode cX7_readyChannel 15 = .ok (.aload_n 0, 1) := by decide +kernel
theorem dX7_readyChannel_16 : decode cX7_readyChannel 16 = .ok (.getfield 9, 3) := by decide +kernel
theorem dX7_readyChannel_19 : decode cX7_readyChannel 19 = .ok (.invokevirtual 97, 3) := by decide +kernel
theorem dX7_readyChannel_22 : decode cX7_readyChannel 22 = .ok (.ifCond .eq 28, 3) := by decide +kernel
theorem dX7_readyChannel_25 : decode cX7_readyChannel 25 = .ok (.iload_n 1, 1) := by decide +kernel
theorem dX7_readyChannel_26 : decode cX7_readyChannel 26 = .ok (.iconst (-1), 1) := by decide +kernel
theorem dX7_readyChannel_27 : decode cX7_readyChannel 27 = .ok (.if_icmp .eq 21, 3) := by decide +kernel
theorem dX7_readyChannel_30 : decode cX7_readyChannel 30 = .ok (.aload_n 0, 1) := by decide +kernel
theorem dX7_readyChannel_31 : decode cX7_readyChannel 31 = .ok (.getfield 33, 3) := by decide +kernel
theorem dX7_readyChannel_34 : decode cX7_readyChannel 34 = .ok (.iload_n 2, 1) := by decide +kernel
theorem dX7_readyChannel_35 : decode cX7_readyChannel 35 = .ok (.aaload, 1) := by decide +kernel
theorem dX7_readyChannel_36 : decode cX7_readyChannel 36 = .ok (.aload_n 0, 1) := by decide +kernel
theorem dX7_readyChannel_37 : decode cX7_readyChannel 37 = .ok (.getfield 33, 3) := by decide +kernel
theorem dX7_readyChannel_40 : decode cX7_readyChannel 40 = .ok (.iload_n 1, 1) := by decide +kernel
theorem dX7_readyChannel_41 : decode cX7_readyChannel 41 = .ok (.aaload, 1) := by decide +kernel
theorem dX7_readyChannel_42 : decode cX7_readyChannel 42 = .ok (.invokevirtual 101, 3) := by decide +kernel
theorem dX7_readyChannel_45 : decode cX7_readyChannel 45 = .ok (.ifCond .eq 5, 3) := by decide +kernel
theorem dX7_readyChannel_48 : decode cX7_readyChannel 48 = .ok (.iload_n 2, 1) := by decide +kernel
theorem dX7_readyChannel_49 : decode cX7_readyChannel 49 = .ok (.istore_n 1, 1) := by decide +kernel
theorem dX7_readyChannel_50 : decode cX7_readyChannel 50 = .ok (.iinc 2 1, 3) := by decide +kernel
theorem dX7_readyChannel_53 : decode cX7_readyChannel 53 = .ok (.goto (-49), 3) := by decide +kernel
theorem dX7_readyChannel_56 : decode cX7_readyChannel 56 = .ok (.iload_n 1, 1) := by decide +kernel
theorem dX7_readyChannel_57 : decode cX7_readyChannel 57 = .ok (.ireturn, 1) := by decide +kernel
theorem dX7_sendSlot_0 : decode cX7_sendSlot 0 = .ok (.aload_n 0, 1) := by decide +kernel
theorem dX7_sendSlot_1 : decode cX7_sendSlot 1 = .ok (.invokevirtual 104, 3) := by decide +kernel
theorem dX7_sendSlot_4 : decode cX7_sendSlot 4 = .ok (.istore_n 1, 1) := by decide +kernel
theorem dX7_sendSlot_5 : decode cX7_sendSlot 5 = .ok (.iconst 0, 1) := by decide +kernel
theorem dX7_sendSlot_6 : decode cX7_sendSlot 6 = .ok (.istore_n 2, 1) := by decide +kernel
theorem dX7_sendSlot_7 : decode cX7_sendSlot 7 = .ok (.iload_n 2, 1) := by decide +kernel
theorem dX7_sendSlot_8 : decode cX7_sendSlot 8 = .ok (.iconst 4, 1) := by decide +kernel
theorem dX7_sendSlot_9 : decode cX7_sendSlot 9 = .ok (.if_icmp .ge 28, 3) := by decide +kernel
theorem dX7_sendSlot_12 : decode cX7_sendSlot 12 = .ok (.aload_n 0, 1) := by decide +kernel
theorem dX7_sendSlot_13 : decode cX7_sendSlot 13 = .ok (.getfield 33, 3) := by decide +kernel
theorem dX7_sendSlot_16 : decode cX7_sendSlot 16 = .ok (.iload_n 2, 1) := by decide +kernel
theorem dX7_sendSlot_17 : decode cX7_sendSlot 17 = .ok (.aaload, 1) := by decide +kernel
theorem dX7_sendSlot_18 : decode cX7_sendSlot 18 = .ok (.iload_n 2, 1) := by decide +kernel
theorem dX7_sendSlot_19 : decode cX7_sendSlot 19 = .ok (.iload_n 1, 1) := by decide +kernel
theorem dX7_sendSlot_20 : decode cX7_sendSlot 20 = .ok (.if_icmp .ne 7, 3) := by decide +kernel
theorem dX7_sendSlot_23 : decode cX7_sendSlot 23 = .ok (.iconst 1, 1) := by decide +kernel
theorem dX7_sendSlot_24 : decode cX7_sendSlot 24 = .ok (.goto 4, 3) := by decide +kernel
theorem dX7_sendSlot_27 : decode cX7_sendSlot 27 = .ok (.iconst 0, 1) := by decide +kernel
theorem dX7_sendSlot_28 : decode cX7_sendSlot 28 = .ok (.invokevirtual 107, 3) := by decide +kernel
theorem dX7_sendSlot_31 : decode cX7_sendSlot 31 = .ok (.iinc 2 1, 3) := by decide +kernel
theorem dX7_sendSlot_34 : decode cX7_sendSlot 34 = .ok (.goto (-27), 3) := by decide +kernel
theorem dX7_sendSlot_37 : decode cX7_sendSlot 37 = .ok (.aload_n 0, 1) := by decide +kernel
theorem dX7_sendSlot_38 : decode cX7_sendSlot 38 = .ok (.getfield 40, 3) := by decide +kernel
theorem dX7_sendSlot_41 : decode cX7_sendSlot 41 = .ok (.invokevirtual 111, 3) := by decide +kernel
theorem dX7_sendSlot_44 : decode cX7_sendSlot 44 = .ok (.astore_n 2, 1) := by decide +kernel
theorem dX7_sendSlot_45 : decode cX7_sendSlot 45 = .ok (.aload_n 2, 1) := by decide +kernel
theorem dX7_sendSlot_46 : decode cX7_sendSlot 46 = .ok (.aload_n 0, 1) := by decide +kernel
theorem dX7_sendSlot_47 : decode cX7_sendSlot 47 = .ok (.getfield 9, 3) := by decide +kernel
theorem dX7_sendSlot_50 : decode cX7_sendSlot 50 = .ok (.aload_n 0, 1) := by decide +kernel
theorem dX7_sendSlot_51 : decode cX7_sendSlot 51 = .ok (.invokevirtual 114, 3) := by decide +kernel
theorem dX7_sendSlot_54 : decode cX7_sendSlot 54 = .ok (.aload_n 0, 1) := by decide +kernel
theorem dX7_sendSlot_55 : decode cX7_sendSlot 55 = .ok (.invokevirtual 118, 3) := by decide +kernel
theorem dX7_sendSlot_58 : decode cX7_sendSlot 58 = .ok (.invokevirtual 121, 3) := by decide +kernel
theorem dX7_sendSlot_61 : decode cX7_sendSlot 61 = .ok (.aload_n 2, 1) := by decide +kernel
theorem dX7_sendSlot_62 : decode cX7_sendSlot 62 = .ok (.getfield 127, 3) := by decide +kernel
theorem dX7_sendSlot_65 : decode cX7_sendSlot 65 = .ok (.iconst 0, 1) := by decide +kernel
theorem dX7_sendSlot_66 : decode cX7_sendSlot 66 = .ok (.aload_n 0, 1) := by decide +kernel
theorem dX7_sendSlot_67 : decode cX7_sendSlot 67 = .ok (.getfield 21, 3) := by decide +kernel
theorem dX7_sendSlot_70 : decode cX7_sendSlot 70 = .ok (.sipush 255, 3) := by decide +kernel
theorem dX7_sendSlot_73 : decode cX7_sendSlot 73 = .ok (.iand, 1) := by decide +kernel
theorem dX7_sendSlot_74 : decode cX7_sendSlot 74 = .ok (.iastore, 1) := by decide +kernel
theorem dX7_sendSlot_75 : decode cX7_sendSlot 75 = .ok (.iload_n 1, 1) := by decide +kernel
theorem dX7_sendSlot_76 : decode cX7_sendSlot 76 = .ok (.iconst (-1), 1) := by decide +kernel
theorem dX7_sendSlot_77 : decode cX7_sendSlot 77 = .ok (.if_icmp .ne 42, 3) := by decide +kernel
theorem dX7_sendSlot_80 : decode cX7_sendSlot 80 = .ok (.aload_n 2, 1) := by decide +kernel
theorem dX7_sendSlot_81 : decode cX7_sendSlot 81 = .ok (.getfield 127, 3) := by decide +kernel
theorem dX7_sendSlot_84 : decode cX7_sendSlot 84 = .ok (.iconst 1, 1) := by decide +kernel
theorem dX7_sendSlot_85 : decode cX7_sendSlot 85 = .ok (.bipush 7, 2) := by decide +kernel
theorem dX7_sendSlot_87 : decode cX7_sendSlot 87 = .ok (.iastore, 1) := by decide +kernel
theorem dX7_sendSlot_88 : decode cX7_sendSlot 88 = .ok (.aload_n 2, 1) := by decide +kernel
theorem dX7_sendSlot_89 : decode cX7_sendSlot 89 = .ok (.getfield 127, 3) := by decide +kernel
theorem dX7_sendSlot_92 : decode cX7_sendSlot 92 = .ok (.iconst 2, 1) := by decide +kernel
theorem dX7_sendSlot_93 : decode cX7_sendSlot 93 = .ok (.aload_n 0, 1) := by decide +kernel
theorem dX7_sendSlot_94 : decode cX7_sendSlot 94 = .ok (.getfield 24, 3) := by decide +kernel
theorem dX7_sendSlot_97 : decode cX7_sendSlot 97 = .ok (.sipush 255, 3) := by decide +kernel
theorem dX7_sendSlot_100 : decode cX7_sendSlot 100 = .ok (.iand, 1) := by decide +kernel
theorem dX7_sendSlot_101 : decode cX7_sendSlot 101 = .ok (.iastore, 1) := by decide +kernel
theorem dX7_sendSlot_102 : decode cX7_sendSlot 102 = .ok (.aload_n 2, 1) := by decide +kernel
theorem dX7_sendSlot_103 : decode cX7_sendSlot 103 = .ok (.invokevirtual 130, 3) := by decide +kernel
theorem dX7_sendSlot_106 : decode cX7_sendSlot 106 = .ok (.aload_n 0, 1) := by decide +kernel
theorem dX7_sendSlot_107 : decode cX7_sendSlot 107 = .ok (.dup, 1) := by decide +kernel
theorem dX7_sendSlot_108 : decode cX7_sendSlot 108 = .ok (.getfield 24, 3) := by decide +kernel
theorem dX7_sendSlot_111 : decode cX7_sendSlot 111 = .ok (.iconst 1, 1) := by decide +kernel
theorem dX7_sendSlot_112 : decode cX7_sendSlot 112 = .ok (.iadd, 1) := by decide +kernel
theorem dX7_sendSlot_113 : decode cX7_sendSlot 113 = .ok (.putfield 24, 3) := by decide +kernel
theorem dX7_sendSlot_116 : decode cX7_sendSlot 116 = .ok (.goto 24, 3) := by decide +kernel
theorem dX7_sendSlot_119 : decode cX7_sendSlot 119 = .ok (.aload_n 2, 1) := by decide +kernel
theorem dX7_sendSlot_120 : decode cX7_sendSlot 120 = .ok (.getfield 127, 3) := by decide +kernel
theorem dX7_sendSlot_123 : decode cX7_sendSlot 123 = .ok (.iconst 1, 1) := by decide +kernel
theorem dX7_sendSlot_124 : decode cX7_sendSlot 124 = .ok (.iload_n 1, 1) := by decide +kernel
theorem dX7_sendSlot_125 : decode cX7_sendSlot 125 = .ok (.iastore, 1) := by decide +kernel
theorem dX7_sendSlot_126 : decode cX7_sendSlot 126 = .ok (.aload_n 0, 1) := by decide +kernel
theorem dX7_sendSlot_127 : decode cX7_sendSlot 127 = .ok (.getfield 33, 3) := by decide +kernel
theorem dX7_sendSlot_130 : decode cX7_sendSlot 130 = .ok (.iload_n 1, 1) := by decide +kernel
theorem dX7_sendSlot_131 : decode cX7_sendSlot 131 = .ok (.aaload, 1) := by decide +kernel
theorem dX7_sendSlot_132 : decode cX7_sendSlot 132 = .ok (.aload_n 2, 1) := by decide +kernel
theorem dX7_sendSlot_133 : decode cX7_sendSlot 133 = .ok (.aload_n 0, 1) := by decide +kernel
theorem dX7_sendSlot_134 : decode cX7_sendSlot 134 = .ok (.getfield 21, 3) := by decide +kernel
theorem dX7_sendSlot_137 : decode cX7_sendSlot 137 = .ok (.invokevirtual 133, 3) := by decide +kernel
theorem dX7_sendSlot_140 : decode cX7_sendSlot 140 = .ok (.aload_n 2, 1) := by decide +kernel
theorem dX7_sendSlot_141 : decode cX7_sendSlot 141 = .ok (.invokevirtual 137, 3) := by decide +kernel
theorem dX7_sendSlot_144 : decode cX7_sendSlot 144 = .ok (.pop, 1) := by decide +kernel
theorem dX7_sendSlot_145 : decode cX7_sendSlot 145 = .ok (.aload_n 0, 1) := by decide +kernel
theorem dX7_sendSlot_146 : decode cX7_sendSlot 146 = .ok (.dup, 1) := by decide +kernel
theorem dX7_sendSlot_147 : decode cX7_sendSlot 147 = .ok (.getfield 21, 3) := by decide +kernel
theorem dX7_sendSlot_150 : decode cX7_sendSlot 150 = .ok (.iconst 1, 1) := by decide +kernel
theorem dX7_sendSlot_151 : decode cX7_sendSlot 151 = .ok (.iadd, 1) := by decide +kernel
theorem dX7_sendSlot_152 : decode cX7_sendSlot 152 = .ok (.putfield 21, 3) := by decide +kernel
theorem dX7_sendSlot_155 : decode cX7_sendSlot 155 = .ok (.iload_n 1, 1) := by decide +kernel
theorem dX7_sendSlot_156 : decode cX7_sendSlot 156 = .ok (.ireturn, 1) := by decide +kernel
theorem dX8_init_0 : decode cX8_init 0 = .ok (.aload_n 0, 1) := by decide +kernel
theorem dX8_init_1 : decode cX8_init 1 = .ok (.invokespecial 1, 3) := by decide +kernel
theorem dX8_init_4 : decode cX8_init 4 = .ok (.aload_n 0, 1) := by decide +kernel
theorem dX8_init_5 : decode cX8_init 5 = .ok (.iconst 0, 1) := by decide +kernel
theorem dX8_init_6 : decode cX8_init 6 = .ok (.putfield 7, 3) := by decide +kernel
theorem dX8_init_9 : decode cX8_init 9 = .ok (.aload_n 0, 1) := by decide +kernel
theorem dX8_init_10 : decode cX8_init 10 = .ok (.iconst 2, 1) := by decide +kernel
theorem dX8_init_11 : decode cX8_init 11 = .ok (.newarray .long, 2) := by decide +kernel
theorem dX8_init_13 : decode cX8_init 13 = .ok (.putfield 13, 3) := by decide +kernel
theorem dX8_init_16 : decode cX8_init 16 = .ok (.aload_n 0, 1) := by decide +kernel
theorem dX8_init_17 : decode cX8_init 17 = .ok (.iconst 2, 1) := by decide +kernel
theorem dX8_init_18 : decode cX8_init 18 = .ok (.newarray .long, 2) := by decide +kernel
theorem dX8_init_20 : decode cX8_init 20 = .ok (.putfield 17, 3) := by decide +kernel
theorem dX8_init_23 : decode cX8_init 23 = .ok (.return_, 1) := by decide +kernel
theorem dX8_copyFrom_0 : decode cX8_copyFrom 0 = .ok (.aload_n 0, 1) := by decide +kernel
theorem dX8_copyFrom_1 : decode cX8_copyFrom 1 = .ok (.aload_n 1, 1) := by decide +kernel
theorem dX8_copyFrom_2 : decode cX8_copyFrom 2 = .ok (.getfield 7, 3) := by decide +kernel
theorem dX8_copyFrom_5 : decode cX8_copyFrom 5 = .ok (.putfield 7, 3) := by decide +kernel
theorem dX8_copyFrom_8 : decode cX8_copyFrom 8 = .ok (.iconst 0, 1) := by decide +kernel
theorem dX8_copyFrom_9 : decode cX8_copyFrom 9 = .ok (.istore_n 2, 1) := by decide +kernel
theorem dX8_copyFrom_10 : decode cX8_copyFrom 10 = .ok (.iload_n 2, 1) := by decide +kernel
theorem dX8_copyFrom_11 : decode cX8_copyFrom 11 = .ok (.iconst 2, 1) := by decide +kernel
theorem dX8_copyFrom_12 : decode cX8_copyFrom 12 = .ok (.if_icmp .ge 33, 3) := by decide +kernel
theorem dX8_copyFrom_15 : decode cX8_copyFrom 15 = .ok (.aload_n 0, 1) := by decide +kernel
theorem dX8_copyFrom_16 : decode cX8_copyFrom 16 = .ok (.getfield 13, 3) := by decide +kernel
theorem dX8_copyFrom_19 : decode cX8_copyFrom 19 = .ok (.iload_n 2, 1) := by decide +kernel
theorem dX8_copyFrom_20 : decode cX8_copyFrom 20 = .ok (.aload_n 1, 1) := by decide +kernel
theorem dX8_copyFrom_21 : decode cX8_copyFrom 21 = .ok (.getfield 13, 3) := by decide +kernel
theorem dX8_copyFrom_24 : decode cX8_copyFrom 24 = .ok (.iload_n 2, 1) := by decide +kernel
theorem dX8_copyFrom_25 : decode cX8_copyFrom 25 = .ok (.laload, 1) := by decide +kernel
theorem dX8_copyFrom_26 : decode cX8_copyFrom 26 = .ok (.lastore, 1) := by decide +kernel
theorem dX8_copyFrom_27 : decode cX8_copyFrom 27 = .ok (.aload_n 0, 1) := by decide +kernel
theorem dX8_copyFrom_28 : decode cX8_copyFrom 28 = .ok (.getfield 17, 3) := by decide +kernel
theorem dX8_copyFrom_31 : decode cX8_copyFrom 31 = .ok (.iload_n 2, 1) := by decide +kernel
theorem dX8_copyFrom_32 : decode cX8_copyFrom 32 = .ok (.aload_n 1, 1) := by decide +kernel
theorem dX8_copyFrom_33 : decode cX8_copyFrom 33 = .ok (.getfield 17, 3) := by decide +kernel
theorem dX8_copyFrom_36 : decode cX8_copyFrom 36 = .ok (.iload_n 2, 1) := by decide +kernel
theorem dX8_copyFrom_37 : decode cX8_copyFrom 37 = .ok (.laload, 1) := by decide +kernel
theorem dX8_copyFrom_38 : decode cX8_copyFrom 38 = .ok (.lastore, 1) := by decide +kernel
theorem dX8_copyFrom_39 : decode cX8_copyFrom 39 = .ok (.iinc 2 1, 3) := by decide +kernel
theorem dX8_copyFrom_42 : decode cX8_copyFrom 42 = .ok (.goto (-32), 3) := by decide +kernel
theorem dX8_copyFrom_45 : decode cX8_copyFrom 45 = .ok (.return_, 1) := by decide +kernel
theorem dX8_note_0 : decode cX8_note 0 = .ok (.aload_n 0, 1) := by decide +kernel
theorem dX8_note_1 : decode cX8_note 1 = .ok (.getfield 7, 3) := by decide +kernel
theorem dX8_note_4 : decode cX8_note 4 = .ok (.iconst 2, 1) := by decide +kernel
theorem dX8_note_5 : decode cX8_note 5 = .ok (.if_icmp .lt 32, 3) := by decide +kernel
theorem dX8_note_8 : decode cX8_note 8 = .ok (.aload_n 0, 1) := by decide +kernel
theorem dX8_note_9 : decode cX8_note 9 = .ok (.getfield 13, 3) := by decide +kernel
theorem dX8_note_12 : decode cX8_note 12 = .ok (.iconst 0, 1) := by decide +kernel
theorem dX8_note_13 : decode cX8_note 13 = .ok (.aload_n 0, 1) := by decide +kernel
theorem dX8_note_14 : decode cX8_note 14 = .ok (.getfield 13, 3) := by decide +kernel
theorem dX8_note_17 : decode cX8_note 17 = .ok (.iconst 1, 1) := by decide +kernel
theorem dX8_note_18 : decode cX8_note 18 = .ok (.laload, 1) := by decide +kernel
theorem dX8_note_19 : decode cX8_note 19 = .ok (.lastore, 1) := by decide +kernel
theorem dX8_note_20 : decode cX8_note 20 = .ok (.aload_n 0, 1) := by decide +kernel
theorem dX8_note_21 : decode cX8_note 21 = .ok (.getfield 17, 3) := by decide +kernel
theorem dX8_note_24 : decode cX8_note 24 = .ok (.iconst 0, 1) := by decide +kernel
theorem dX8_note_25 : decode cX8_note 25 = .ok (.aload_n 0, 1) := by decide +kernel
theorem dX8_note_26 : decode cX8_note 26 = .ok (.getfield 17, 3) := by decide +kernel
theorem dX8_note_29 : decode cX8_note 29 = .ok (.iconst 1, 1) := by decide +kernel
theorem dX8_note_30 : decode cX8_note 30 = .ok (.laload, 1) := by decide +kernel
theorem dX8_note_31 : decode cX8_note 31 = .ok (.lastore, 1) := by decide +kernel
theorem dX8_note_32 : decode cX8_note 32 = .ok (.aload_n 0, 1) := by decide +kernel
theorem dX8_note_33 : decode cX8_note 33 = .ok (.iconst 1, 1) := by decide +kernel
theorem dX8_note_34 : decode cX8_note 34 = .ok (.putfield 7, 3) := by decide +kernel
theorem dX8_note_37 : decode cX8_note 37 = .ok (.aload_n 0, 1) := by decide +kernel
theorem dX8_note_38 : decode cX8_note 38 = .ok (.getfield 13, 3) := by decide +kernel
theorem dX8_note_41 : decode cX8_note 41 = .ok (.aload_n 0, 1) := by decide +kernel
theorem dX8_note_42 : decode cX8_note 42 = .ok (.getfield 7, 3) := by decide +kernel
theorem dX8_note_45 : decode cX8_note 45 = .ok (.lload_n 1, 1) := by decide +kernel
theorem dX8_note_46 : decode cX8_note 46 = .ok (.lastore, 1) := by decide +kernel
theorem dX8_note_47 : decode cX8_note 47 = .ok (.aload_n 0, 1) := by decide +kernel
theorem dX8_note_48 : decode cX8_note 48 = .ok (.getfield 17, 3) := by decide +kernel
theorem dX8_note_51 : decode cX8_note 51 = .ok (.aload_n 0, 1) := by decide +kernel
theorem dX8_note_52 : decode cX8_note 52 = .ok (.getfield 7, 3) := by decide +kernel
theorem dX8_note_55 : decode cX8_note 55 = .ok (.lload_n 3, 1) := by decide +kernel
theorem dX8_note_56 : decode cX8_note 56 = .ok (.lastore, 1) := by decide +kernel
theorem dX8_note_57 : decode cX8_note 57 = .ok (.aload_n 0, 1) := by decide +kernel
theorem dX8_note_58 : decode cX8_note 58 = .ok (.dup, 1) := by decide +kernel
theorem dX8_note_59 : decode cX8_note 59 = .ok (.getfield 7, 3) := by decide +kernel
theorem dX8_note_62 : decode cX8_note 62 = .ok (.iconst 1, 1) := by decide +kernel
theorem dX8_note_63 : decode cX8_note 63 = .ok (.iadd, 1) := by decide +kernel
theorem dX8_note_64 : decode cX8_note 64 = .ok (.putfield 7, 3) := by decide +kernel
theorem dX8_note_67 : decode cX8_note 67 = .ok (.return_, 1) := by decide +kernel
theorem dX9_init_0 : decode cX9_init 0 = .ok (.aload_n 0, 1) := by decide +kernel
theorem dX9_init_1 : decode cX9_init 1 = .ok (.invokespecial 3, 3) := by decide +kernel
theorem dX9_init_4 : decode cX9_init 4 = .ok (.aload_n 0, 1) := by decide +kernel
theorem dX9_init_5 : decode cX9_init 5 = .ok (.iconst 0, 1) := by decide +kernel
theorem dX9_init_6 : decode cX9_init 6 = .ok (.putfield 9, 3) := by decide +kernel
theorem dX9_init_9 : decode cX9_init 9 = .ok (.aload_n 0, 1) := by decide +kernel
theorem dX9_init_10 : decode cX9_init 10 = .ok (.bipush 60, 2) := by decide +kernel
theorem dX9_init_12 : decode cX9_init 12 = .ok (.anewarray 15, 3) := by decide +kernel
theorem dX9_init_15 : decode cX9_init 15 = .ok (.putfield 17, 3) := by decide +kernel
theorem dX9_init_18 : decode cX9_init 18 = .ok (.iconst 0, 1) := by decide +kernel
theorem dX9_init_19 : decode cX9_init 19 = .ok (.istore_n 1, 1) := by decide +kernel
theorem dX9_init_20 : decode cX9_init 20 = .ok (.iload_n 1, 1) := by decide +kernel
theorem dX9_init_21 : decode cX9_init 21 = .ok (.bipush 60, 2) := by decide +kernel
theorem dX9_init_23 : decode cX9_init 23 = .ok (.if_icmp .ge 22, 3) := by decide +kernel
theorem dX9_init_26 : decode cX9_init 26 = .ok (.aload_n 0, 1) := by decide +kernel
theorem dX9_init_27 : decode cX9_init 27 = .ok (.getfield 17, 3) := by decide +kernel
theorem dX9_init_30 : decode cX9_init 30 = .ok (.iload_n 1, 1) := by decide +kernel
theorem dX9_init_31 : decode cX9_init 31 = .ok (.new 15, 3) := by decide +kernel
theorem dX9_init_34 : decode cX9_init 34 = .ok (.dup, 1) := by decide +kernel
theorem dX9_init_35 : decode cX9_init 35 = .ok (.invokespecial 21, 3) := by decide +kernel
theorem dX9_init_38 : decode cX9_init 38 = .ok (.aastore, 1) := by decide +kernel
theorem dX9_init_39 : decode cX9_init 39 = .ok (.iinc 1 1, 3) := by decide +kernel
theorem dX9_init_42 : decode cX9_init 42 = .ok (.goto (-22), 3) := by decide +kernel
theorem dX9_init_45 : decode cX9_init 45 = .ok (.return_, 1) := by decide +kernel
theorem dX9_copyFrom_0 : decode cX9_copyFrom 0 = .ok (.aload_n 0, 1) := by decide +kernel
theorem dX9_copyFrom_1 : decode cX9_copyFrom 1 = .ok (.aload_n 1, 1) := by decide +kernel
theorem dX9_copyFrom_2 : decode cX9_copyFrom 2 = .ok (.getfield 9, 3) := by decide +kernel
theorem dX9_copyFrom_5 : decode cX9_copyFrom 5 = .ok (.putfield 9, 3) := by decide +kernel
theorem dX9_copyFrom_8 : decode cX9_copyFrom 8 = .ok (.iconst 0, 1) := by decide +kernel
theorem dX9_copyFrom_9 : decode cX9_copyFrom 9 = .ok (.istore_n 2, 1) := by decide +kernel
theorem dX9_copyFrom_10 : decode cX9_copyFrom 10 = .ok (.iload_n 2, 1) := by decide +kernel
theorem dX9_copyFrom_11 : decode cX9_copyFrom 11 = .ok (.aload_n 0, 1) := by decide +kernel
theorem dX9_copyFrom_12 : decode cX9_copyFrom 12 = .ok (.getfield 9, 3) := by decide +kernel
theorem dX9_copyFrom_15 : decode cX9_copyFrom 15 = .ok (.if_icmp .ge 30, 3) := by decide +kernel
theorem dX9_copyFrom_18 : decode cX9_copyFrom 18 = .ok (.iload_n 2, 1) := by decide +kernel
theorem dX9_copyFrom_19 : decode cX9_copyFrom 19 = .ok (.bipush 60, 2) := by decide +kernel
theorem dX9_copyFrom_21 : decode cX9_copyFrom 21 = .ok (.if_icmp .ge 24, 3) := by decide +kernel
theorem dX9_copyFrom_24 : decode cX9_copyFrom 24 = .ok (.aload_n 0, 1) := by decide +kernel
theorem dX9_copyFrom_25 : decode cX9_copyFrom 25 = .ok (.getfield 17, 3) := by decide +kernel
theorem dX9_copyFrom_28 : decode cX9_copyFrom 28 = .ok (.iload_n 2, 1) := by decide +kernel
theorem dX9_copyFrom_29 : decode cX9_copyFrom 29 = .ok (.aaload, 1) := by decide +kernel
theorem dX9_copyFrom_30 : decode cX9_copyFrom 30 = .ok (.aload_n 1, 1) := by decide +kernel
theorem dX9_copyFrom_31 : decode cX9_copyFrom 31 = .ok (.getfield 17, 3) := by decide +kernel
theorem dX9_copyFrom_34 : decode cX9_copyFrom 34 = .ok (.iload_n 2, 1) := by decide +kernel
theorem dX9_copyFrom_35 : decode cX9_copyFrom 35 = .ok (.aaload, 1) := by decide +kernel
theorem dX9_copyFrom_36 : decode cX9_copyFrom 36 = .ok (.invokevirtual 22, 3) := by decide +kernel
theorem dX9_copyFrom_39 : decode cX9_copyFrom 39 = .ok (.iinc 2 1, 3) := by decide +kernel
theorem dX9_copyFrom_42 : decode cX9_copyFrom 42 = .ok (.goto (-32), 3) := by decide +kernel
theorem dX9_copyFrom_45 : decode cX9_copyFrom 45 = .ok (.return_, 1) := by decide +kernel
theorem dX9_append_0 : decode cX9_append 0 = .ok (.aload_n 0, 1) := by decide +kernel
theorem dX9_append_1 : decode cX9_append 1 = .ok (.getfield 9, 3) := by decide +kernel
theorem dX9_append_4 : decode cX9_append 4 = .ok (.bipush 59, 2) := by decide +kernel
theorem dX9_append_6 : decode cX9_append 6 = .ok (.invokestatic 26, 3) := by decide +kernel
theorem dX9_append_9 : decode cX9_append 9 = .ok (.istore_n 1, 1) := by decide +kernel
theorem dX9_append_10 : decode cX9_append 10 = .ok (.aload_n 0, 1) := by decide +kernel
theorem dX9_append_11 : decode cX9_append 11 = .ok (.iload_n 1, 1) := by decide +kernel
theorem dX9_append_12 : decode cX9_append 12 = .ok (.iconst 1, 1) := by decide +kernel
theorem dX9_append_13 : decode cX9_append 13 = .ok (.iadd, 1) := by decide +kernel
theorem dX9_append_14 : decode cX9_append 14 = .ok (.putfield 9, 3) := by decide +kernel
theorem dX9_append_17 : decode cX9_append 17 = .ok (.aload_n 0, 1) := by decide +kernel
theorem dX9_append_18 : decode cX9_append 18 = .ok (.getfield 17, 3) := by decide +kernel
theorem dX9_append_21 : decode cX9_append 21 = .ok (.iload_n 1, 1) := by decide +kernel
theorem dX9_append_22 : decode cX9_append 22 = .ok (.aaload, 1) := by decide +kernel
theorem dX9_append_23 : decode cX9_append 23 = .ok (.areturn, 1) := by decide +kernel
theorem dX9_lostFrames_0 : decode cX9_lostFrames 0 = .ok (.iconst 0, 1) := by decide +kernel
theorem dX9_lostFrames_1 : decode cX9_lostFrames 1 = .ok (.istore_n 1, 1) := by decide +kernel
theorem dX9_lostFrames_2 : decode cX9_lostFrames 2 = .ok (.iconst 0, 1) := by decide +kernel
theorem dX9_lostFrames_3 : decode cX9_lostFrames 3 = .ok (.istore_n 2, 1) := by decide +kernel
theorem dX9_lostFrames_4 : decode cX9_lostFrames 4 = .ok (.iload_n 2, 1) := by decide +kernel
theorem dX9_lostFrames_5 : decode cX9_lostFrames 5 = .ok (.aload_n 0, 1) := by decide +kernel
theorem dX9_lostFrames_6 : decode cX9_lostFrames 6 = .ok (.getfield 9, 3) := by decide +kernel
theorem dX9_lostFrames_9 : decode cX9_lostFrames 9 = .ok (.if_icmp .ge 30, 3) := by decide +kernel
theorem dX9_lostFrames_12 : decode cX9_lostFrames 12 = .ok (.iload_n 2, 1) := by decide +kernel
theorem dX9_lostFrames_13 : decode cX9_lostFrames 13 = .ok (.bipush 60, 2) := by decide +kernel
theorem dX9_lostFrames_15 : decode cX9_lostFrames 15 = .ok (.if_icmp .ge 24, 3) := by decide +kernel
theorem dX9_lostFrames_18 : decode cX9_lostFrames 18 = .ok (.aload_n 0, 1) := by decide +kernel
theorem dX9_lostFrames_19 : decode cX9_lostFrames 19 = .ok (.getfield 17, 3) := by decide +kernel
theorem dX9_lostFrames_22 : decode cX9_lostFrames 22 = .ok (.iload_n 2, 1) := by decide +kernel
theorem dX9_lostFrames_23 : decode cX9_lostFrames 23 = .ok (.aaload, 1) := by decide +kernel
theorem dX9_lostFrames_24 : decode cX9_lostFrames 24 = .ok (.getfield 32, 3) := by decide +kernel
theorem dX9_lostFrames_27 : decode cX9_lostFrames 27 = .ok (.ifCond .eq 6, 3) := by decide +kernel
theorem dX9_lostFrames_30 : decode cX9_lostFrames 30 = .ok (.iinc 1 1, 3) := by decide +kernel
theorem dX9_lostFrames_33 : decode cX9_lostFrames 33 = .ok (.iinc 2 1, 3) := by decide +kernel
theorem dX9_lostFrames_36 : decode cX9_lostFrames 36 = .ok (.goto (-32), 3) := by decide +kernel
theorem dX9_lostFrames_39 : decode cX9_lostFrames 39 = .ok (.iload_n 1, 1) := by decide +kernel
theorem dX9_lostFrames_40 : decode cX9_lostFrames 40 = .ok (.ireturn, 1) := by decide +kernel
theorem dX9_removeFirst_0 : decode cX9_removeFirst 0 = .ok (.iconst 0, 1) := by decide +kernel
theorem dX9_removeFirst_1 : decode cX9_removeFirst 1 = .ok (.istore_n 2, 1) := by decide +kernel
theorem dX9_removeFirst_2 : decode cX9_removeFirst 2 = .ok (.iload_n 2, 1) := by decide +kernel
theorem dX9_removeFirst_3 : decode cX9_removeFirst 3 = .ok (.iload_n 1, 1) := by decide +kernel
theorem dX9_removeFirst_4 : decode cX9_removeFirst 4 = .ok (.iadd, 1) := by decide +kernel
theorem dX9_removeFirst_5 : decode cX9_removeFirst 5 = .ok (.aload_n 0, 1) := by decide +kernel
theorem dX9_removeFirst_6 : decode cX9_removeFirst 6 = .ok (.getfield 9, 3) := by decide +kernel
theorem dX9_removeFirst_9 : decode cX9_removeFirst 9 = .ok (.if_icmp .ge 47, 3) := by decide +kernel
theorem dX9_removeFirst_12 : decode cX9_removeFirst 12 = .ok (.iload_n 2, 1) := by decide +kernel
theorem dX9_removeFirst_13 : decode cX9_removeFirst 13 = .ok (.iload_n 1, 1) := by decide +kernel
theorem dX9_removeFirst_14 : decode cX9_removeFirst 14 = .ok (.iadd, 1) := by decide +kernel
theorem dX9_removeFirst_15 : decode cX9_removeFirst 15 = .ok (.bipush 60, 2) := by decide +kernel
theorem dX9_removeFirst_17 : decode cX9_removeFirst 17 = .ok (.if_icmp .ge 39, 3) := by decide +kernel
theorem dX9_removeFirst_20 : decode cX9_removeFirst 20 = .ok (.aload_n 0, 1) := by decide +kernel
theorem dX9_removeFirst_21 : decode cX9_removeFirst 21 = .ok (.getfield 17, 3) := by decide +kernel
theorem dX9_removeFirst_24 : decode cX9_removeFirst 24 = .ok (.iload_n 2, 1) := by decide +kernel
theorem dX9_removeFirst_25 : decode cX9_removeFirst 25 = .ok (.aaload, 1) := by decide +kernel
theorem dX9_removeFirst_26 : decode cX9_removeFirst 26 = .ok (.astore_n 3, 1) := by decide +kernel
theorem dX9_removeFirst_27 : decode cX9_removeFirst 27 = .ok (.aload_n 0, 1) := by decide +kernel
theorem dX9_removeFirst_28 : decode cX9_removeFirst 28 = .ok (.getfield 17, 3) := by decide +kernel
theorem dX9_removeFirst_31 : decode cX9_removeFirst 31 = .ok (.iload_n 2, 1) := by decide +kernel
theorem dX9_removeFirst_32 : decode cX9_removeFirst 32 = .ok (.aload_n 0, 1) := by decide +kernel
theorem dX9_removeFirst_33 : decode cX9_removeFirst 33 = .ok (.getfield 17, 3) := by decide +kernel
theorem dX9_removeFirst_36 : decode cX9_removeFirst 36 = .ok (.iload_n 2, 1) := by decide +kernel
theorem dX9_removeFirst_37 : decode cX9_removeFirst 37 = .ok (.iload_n 1, 1) := by decide +kernel
theorem dX9_removeFirst_38 : decode cX9_removeFirst 38 = .ok (.iadd, 1) := by decide +kernel
theorem dX9_removeFirst_39 : decode cX9_removeFirst 39 = .ok (.aaload, 1) := by decide +kernel
theorem dX9_removeFirst_40 : decode cX9_removeFirst 40 = .ok (.aastore, 1) := by decide +kernel
theorem dX9_removeFirst_41 : decode cX9_removeFirst 41 = .ok (.aload_n 0, 1) := by decide +kernel
theorem dX9_removeFirst_42 : decode cX9_removeFirst 42 = .ok (.getfield 17, 3) := by decide +kernel
theorem dX9_removeFirst_45 : decode cX9_removeFirst 45 = .ok (.iload_n 2, 1) := by decide +kernel
theorem dX9_removeFirst_46 : decode cX9_removeFirst 46 = .ok (.iload_n 1, 1) := by decide +kernel
theorem dX9_removeFirst_47 : decode cX9_removeFirst 47 = .ok (.iadd, 1) := by decide +kernel
theorem dX9_removeFirst_48 : decode cX9_removeFirst 48 = .ok (.aload_n 3, 1) := by decide +kernel
theorem dX9_removeFirst_49 : decode cX9_removeFirst 49 = .ok (.aastore, 1) := by decide +kernel
theorem dX9_removeFirst_50 : decode cX9_removeFirst 50 = .ok (.iinc 2 1, 3) := by decide +kernel
theorem dX9_removeFirst_53 : decode cX9_removeFirst 53 = .ok (.goto (-51), 3) := by decide +kernel
theorem dX9_removeFirst_56 : decode cX9_removeFirst 56 = .ok (.aload_n 0, 1) := by decide +kernel
theorem dX9_removeFirst_57 : decode cX9_removeFirst 57 = .ok (.iconst 0, 1) := by decide +kernel
theorem dX9_removeFirst_58 : decode cX9_removeFirst 58 = .ok (.aload_n 0, 1) := by decide +kernel
theorem dX9_removeFirst_59 : decode cX9_removeFirst 59 = .ok (.getfield 9, 3) := by decide +kernel
theorem dX9_removeFirst_62 : decode cX9_removeFirst 62 = .ok (.iload_n 1, 1) := by decide +kernel
theorem dX9_removeFirst_63 : decode cX9_removeFirst 63 = .ok (.isub, 1) := by decide +kernel
theorem dX9_removeFirst_64 : decode cX9_removeFirst 64 = .ok (.invokestatic 36, 3) := by decide +kernel
theorem dX9_removeFirst_67 : decode cX9_removeFirst 67 = .ok (.putfield 9, 3) := by decide +kernel
theorem dX9_removeFirst_70 : decode cX9_removeFirst 70 = .ok (.return_, 1) := by decide +kernel
theorem dJ9_floorDiv_f86c9_0 : decode cJ9_floorDiv_f86c9 0 = .ok (.lload_n 0, 1) := by decide +kernel
theorem dJ9_floorDiv_f86c9_1 : decode cJ9_floorDiv_f86c9 1 = .ok (.lload_n 2, 1) := by decide +kernel
theorem dJ9_floorDiv_f86c9_2 : decode cJ9_floorDiv_f86c9 2 = .ok (.ldiv, 1) := by decide +kernel
theorem dJ9_floorDiv_f86c9_3 : decode cJ9_floorDiv_f86c9 3 = .ok (.lstore 4, 2) := by decide +kernel
theorem dJ9_floorDiv_f86c9_5 : decode cJ9_floorDiv_f86c9 5 = .ok (.lload_n 0, 1) := by decide +kernel
theorem dJ9_floorDiv_f86c9_6 : decode cJ9_floorDiv_f86c9 6 = .ok (.lload_n 2, 1) := by decide +kernel
theorem dJ9_floorDiv_f86c9_7 : decode cJ9_floorDiv_f86c9 7 = .ok (.lxor, 1) := by decide +kernel
theorem dJ9_floorDiv_f86c9_8 : decode cJ9_floorDiv_f86c9 8 = .ok (.lconst 0, 1) := by decide +kernel
theorem dJ9_floorDiv_f86c9_9 : decode cJ9_floorDiv_f86c9 9 = .ok (.lcmp, 1) := by decide +kernel
theorem dJ9_floorDiv_f86c9_10 : decode cJ9_floorDiv_f86c9 10 = .ok (.ifCond .ge 17, 3) := by decide +kernel
theorem dJ9_floorDiv_f86c9_13 : decode cJ9_floorDiv_f86c9 13 = .ok (.lload 4, 2) := by decide +kernel
theorem dJ9_floorDiv_f86c9_15 : decode cJ9_floorDiv_f86c9 15 = .ok (.lload_n 2, 1) := by decide +kernel
theorem dJ9_floorDiv_f86c9_16 : decode cJ9_floorDiv_f86c9 16 = .ok (.lmul, 1) := by decide +kernel
theorem dJ9_floorDiv_f86c9_17 : decode cJ9_floorDiv_f86c9 17 = .ok (.lload_n 0, 1) := by decide +kernel
theorem dJ9_floorDiv_f86c9_18 : decode cJ9_floorDiv_f86c9 18 = .ok (.lcmp, 1) := by decide +kernel
theorem dJ9_floorDiv_f86c9_19 : decode cJ9_floorDiv_f86c9 19 = .ok (.ifCond .eq 8, 3) := by decide +kernel
theorem dJ9_floorDiv_f86c9_22 : decode cJ9_floorDiv_f86c9 22 = .ok (.lload 4, 2) := by decide +kernel
theorem dJ9_floorDiv_f86c9_24 : decode cJ9_floorDiv_f86c9 24 = .ok (.lconst 1, 1) := by decide +kernel
theorem dJ9_floorDiv_f86c9_25 : decode cJ9_floorDiv_f86c9 25 = .ok (.lsub, 1) := by decide +kernel
theorem dJ9_floorDiv_f86c9_26 : decode cJ9_floorDiv_f86c9 26 = .ok (.lreturn, 1) := by decide +kernel
theorem dJ9_floorDiv_f86c9_27 : decode cJ9_floorDiv_f86c9 27 = .ok (.lload 4, 2) := by decide +kernel
theorem dJ9_floorDiv_f86c9_29 : decode cJ9_floorDiv_f86c9 29 = .ok (.lreturn, 1) := by decide +kernel
theorem dJ9_max_7cf53_0 : decode cJ9_max_7cf53 0 = .ok (.iload_n 0, 1) := by decide +kernel
theorem dJ9_max_7cf53_1 : decode cJ9_max_7cf53 1 = .ok (.iload_n 1, 1) := by decide +kernel
theorem dJ9_max_7cf53_2 : decode cJ9_max_7cf53 2 = .ok (.if_icmp .lt 7, 3) := by decide +kernel
theorem dJ9_max_7cf53_5 : decode cJ9_max_7cf53 5 = .ok (.iload_n 0, 1) := by decide +kernel
theorem dJ9_max_7cf53_6 : decode cJ9_max_7cf53 6 = .ok (.goto 4, 3) := by decide +kernel
theorem dJ9_max_7cf53_9 : decode cJ9_max_7cf53 9 = .ok (.iload_n 1, 1) := by decide +kernel
theorem dJ9_max_7cf53_10 : decode cJ9_max_7cf53 10 = .ok (.ireturn, 1) := by decide +kernel
theorem dJ9_min_7cf53_0 : decode cJ9_min_7cf53 0 = .ok (.iload_n 0, 1) := by decide +kernel
theorem dJ9_min_7cf53_1 : decode cJ9_min_7cf53 1 = .ok (.iload_n 1, 1) := by decide +kernel
theorem dJ9_min_7cf53_2 : decode cJ9_min_7cf53 2 = .ok (.if_icmp .gt 7, 3) := by decide +kernel
theorem dJ9_min_7cf53_5 : decode cJ9_min_7cf53 5 = .ok (.iload_n 0, 1) := by decide +kernel
theorem dJ9_min_7cf53_6 : decode cJ9_min_7cf53 6 = .ok (.goto 4, 3) := by decide +kernel
theorem dJ9_min_7cf53_9 : decode cJ9_min_7cf53 9 = .ok (.iload_n 1, 1) := by decide +kernel
theorem dJ9_min_7cf53_10 : decode cJ9_min_7cf53 10 = .ok (.ireturn, 1) := by decide +kernel

theorem dX10_init_0 : decode cX10_init 0 = .ok (.aload_n 0, 1) := by decide +kernel
theorem dX10_init_1 : decode cX10_init 1 = .ok (.invokespecial 1, 3) := by decide +kernel
theorem dX10_init_4 : decode cX10_init 4 = .ok (.aload_n 0, 1) := by decide +kernel
theorem dX10_init_5 : decode cX10_init 5 = .ok (.new 7, 3) := by decide +kernel
theorem dX10_init_8 : decode cX10_init 8 = .ok (.dup, 1) := by decide +kernel
theorem dX10_init_9 : decode cX10_init 9 = .ok (.invokespecial 9, 3) := by decide +kernel
theorem dX10_init_12 : decode cX10_init 12 = .ok (.putfield 10, 3) := by decide +kernel
theorem dX10_init_15 : decode cX10_init 15 = .ok (.aload_n 0, 1) := by decide +kernel
theorem dX10_init_16 : decode cX10_init 16 = .ok (.iconst 3, 1) := by decide +kernel
theorem dX10_init_17 : decode cX10_init 17 = .ok (.anewarray 7, 3) := by decide +kernel
theorem dX10_init_20 : decode cX10_init 20 = .ok (.putfield 16, 3) := by decide +kernel
theorem dX10_init_23 : decode cX10_init 23 = .ok (.iconst 0, 1) := by decide +kernel
theorem dX10_init_24 : decode cX10_init 24 = .ok (.istore_n 1, 1) := by decide +kernel
theorem dX10_init_25 : decode cX10_init 25 = .ok (.iload_n 1, 1) := by decide +kernel
theorem dX10_init_26 : decode cX10_init 26 = .ok (.iconst 3, 1) := by decide +kernel
theorem dX10_init_27 : decode cX10_init 27 = .ok (.if_icmp .ge 22, 3) := by decide +kernel
theorem dX10_init_30 : decode cX10_init 30 = .ok (.aload_n 0, 1) := by decide +kernel
theorem dX10_init_31 : decode cX10_init 31 = .ok (.getfield 16, 3) := by decide +kernel
theorem dX10_init_34 : decode cX10_init 34 = .ok (.iload_n 1, 1) := by decide +kernel
theorem dX10_init_35 : decode cX10_init 35 = .ok (.new 7, 3) := by decide +kernel
theorem dX10_init_38 : decode cX10_init 38 = .ok (.dup, 1) := by decide +kernel
theorem dX10_init_39 : decode cX10_init 39 = .ok (.invokespecial 9, 3) := by decide +kernel
theorem dX10_init_42 : decode cX10_init 42 = .ok (.aastore, 1) := by decide +kernel
theorem dX10_init_43 : decode cX10_init 43 = .ok (.iinc 1 1, 3) := by decide +kernel
theorem dX10_init_46 : decode cX10_init 46 = .ok (.goto (-21), 3) := by decide +kernel
theorem dX10_init_49 : decode cX10_init 49 = .ok (.aload_n 0, 1) := by decide +kernel
theorem dX10_init_50 : decode cX10_init 50 = .ok (.iconst 0, 1) := by decide +kernel
theorem dX10_init_51 : decode cX10_init 51 = .ok (.putfield 20, 3) := by decide +kernel
theorem dX10_init_54 : decode cX10_init 54 = .ok (.return_, 1) := by decide +kernel
theorem dX10_setFrameLength_0 : decode cX10_setFrameLength 0 = .ok (.iload_n 1, 1) := by decide +kernel
theorem dX10_setFrameLength_1 : decode cX10_setFrameLength 1 = .ok (.bipush 8, 2) := by decide +kernel
theorem dX10_setFrameLength_3 : decode cX10_setFrameLength 3 = .ok (.bipush 40, 2) := by decide +kernel
theorem dX10_setFrameLength_5 : decode cX10_setFrameLength 5 = .ok (.invokestatic 24, 3) := by decide +kernel
theorem dX10_setFrameLength_8 : decode cX10_setFrameLength 8 = .ok (.ifCond .eq 13, 3) := by decide +kernel
theorem dX10_setFrameLength_11 : decode cX10_setFrameLength 11 = .ok (.new 28, 3) := by decide +kernel
theorem dX10_setFrameLength_14 : decode cX10_setFrameLength 14 = .ok (.dup, 1) := by decide +kernel
theorem dX10_setFrameLength_15 : decode cX10_setFrameLength 15 = .ok (.ldc 30, 2) := by decide +kernel
theorem dX10_setFrameLength_17 : decode cX10_setFrameLength 17 = .ok (.invokespecial 32, 3) := by decide +kernel
theorem dX10_setFrameLength_20 : decode cX10_setFrameLength 20 = .ok (.athrow, 1) := by decide +kernel
theorem dX10_setFrameLength_21 : decode cX10_setFrameLength 21 = .ok (.aload_n 0, 1) := by decide +kernel
theorem dX10_setFrameLength_22 : decode cX10_setFrameLength 22 = .ok (.getfield 10, 3) := by decide +kernel
theorem dX10_setFrameLength_25 : decode cX10_setFrameLength 25 = .ok (.invokevirtual 35, 3) := by decide +kernel
theorem dX10_setFrameLength_28 : decode cX10_setFrameLength 28 = .ok (.ifCond .eq 13, 3) := by decide +kernel
theorem dX10_setFrameLength_31 : decode cX10_setFrameLength 31 = .ok (.new 39, 3) := by decide +kernel
theorem dX10_setFrameLength_34 : decode cX10_setFrameLength 34 = .ok (.dup, 1) := by decide +kernel
theorem dX10_setFrameLength_35 : decode cX10_setFrameLength 35 = .ok (.ldc 41, 2) := by decide +kernel
theorem dX10_setFrameLength_37 : decode cX10_setFrameLength 37 = .ok (.invokespecial 43, 3) := by decide +kernel
theorem dX10_setFrameLength_40 : decode cX10_setFrameLength 40 = .ok (.athrow, 1) := by decide +kernel
theorem dX10_setFrameLength_41 : decode cX10_setFrameLength 41 = .ok (.aload_n 0, 1) := by decide +kernel
theorem dX10_setFrameLength_42 : decode cX10_setFrameLength 42 = .ok (.invokevirtual 44, 3) := by decide +kernel
theorem dX10_setFrameLength_45 : decode cX10_setFrameLength 45 = .ok (.aload_n 0, 1) := by decide +kernel
theorem dX10_setFrameLength_46 : decode cX10_setFrameLength 46 = .ok (.getfield 10, 3) := by decide +kernel
theorem dX10_setFrameLength_49 : decode cX10_setFrameLength 49 = .ok (.getfield 47, 3) := by decide +kernel
theorem dX10_setFrameLength_52 : decode cX10_setFrameLength 52 = .ok (.istore_n 2, 1) := by decide +kernel
theorem dX10_setFrameLength_53 : decode cX10_setFrameLength 53 = .ok (.aload_n 0, 1) := by decide +kernel
theorem dX10_setFrameLength_54 : decode cX10_setFrameLength 54 = .ok (.getfield 10, 3) := by decide +kernel
theorem dX10_setFrameLength_57 : decode cX10_setFrameLength 57 = .ok (.iload_n 1, 1) := by decide +kernel
theorem dX10_setFrameLength_58 : decode cX10_setFrameLength 58 = .ok (.putfield 47, 3) := by decide +kernel
theorem dX10_setFrameLength_61 : decode cX10_setFrameLength 61 = .ok (.iload_n 2, 1) := by decide +kernel
theorem dX10_setFrameLength_62 : decode cX10_setFrameLength 62 = .ok (.ireturn, 1) := by decide +kernel
theorem dX10_setChannel_0 : decode cX10_setChannel 0 = .ok (.iload_n 1, 1) := by decide +kernel
theorem dX10_setChannel_1 : decode cX10_setChannel 1 = .ok (.iconst 0, 1) := by decide +kernel
theorem dX10_setChannel_2 : decode cX10_setChannel 2 = .ok (.iconst 3, 1) := by decide +kernel
theorem dX10_setChannel_3 : decode cX10_setChannel 3 = .ok (.invokestatic 24, 3) := by decide +kernel
theorem dX10_setChannel_6 : decode cX10_setChannel 6 = .ok (.ifCond .eq 13, 3) := by decide +kernel
theorem dX10_setChannel_9 : decode cX10_setChannel 9 = .ok (.new 50, 3) := by decide +kernel
theorem dX10_setChannel_12 : decode cX10_setChannel 12 = .ok (.dup, 1) := by decide +kernel
theorem dX10_setChannel_13 : decode cX10_setChannel 13 = .ok (.ldc 52, 2) := by decide +kernel
theorem dX10_setChannel_15 : decode cX10_setChannel 15 = .ok (.invokespecial 54, 3) := by decide +kernel
theorem dX10_setChannel_18 : decode cX10_setChannel 18 = .ok (.athrow, 1) := by decide +kernel
theorem dX10_setChannel_19 : decode cX10_setChannel 19 = .ok (.iload_n 2, 1) := by decide +kernel
theorem dX10_setChannel_20 : decode cX10_setChannel 20 = .ok (.iconst 0, 1) := by decide +kernel
theorem dX10_setChannel_21 : decode cX10_setChannel 21 = .ok (.bipush 9, 2) := by decide +kernel
theorem dX10_setChannel_23 : decode cX10_setChannel 23 = .ok (.invokestatic 24, 3) := by decide +kernel
theorem dX10_setChannel_26 : decode cX10_setChannel 26 = .ok (.ifCond .ne 24, 3) := by decide +kernel
theorem dX10_setChannel_29 : decode cX10_setChannel 29 = .ok (.iload_n 3, 1) := by decide +kernel
theorem dX10_setChannel_30 : decode cX10_setChannel 30 = .ok (.iconst 0, 1) := by decide +kernel
theorem dX10_setChannel_31 : decode cX10_setChannel 31 = .ok (.bipush 50, 2) := by decide +kernel
theorem dX10_setChannel_33 : decode cX10_setChannel 33 = .ok (.invokestatic 24, 3) := by decide +kernel
theorem dX10_setChannel_36 : decode cX10_setChannel 36 = .ok (.ifCond .ne 14, 3) := by decide +kernel
theorem dX10_setChannel_39 : decode cX10_setChannel 39 = .ok (.iload 4, 2) := by decide +kernel
theorem dX10_setChannel_41 : decode cX10_setChannel 41 = .ok (.iconst 0, 1) := by decide +kernel
theorem dX10_setChannel_42 : decode cX10_setChannel 42 = .ok (.bipush 50, 2) := by decide +kernel
theorem dX10_setChannel_44 : decode cX10_setChannel 44 = .ok (.invokestatic 24, 3) := by decide +kernel
theorem dX10_setChannel_47 : decode cX10_setChannel 47 = .ok (.ifCond .eq 13, 3) := by decide +kernel
theorem dX10_setChannel_50 : decode cX10_setChannel 50 = .ok (.new 28, 3) := by decide +kernel
theorem dX10_setChannel_53 : decode cX10_setChannel 53 = .ok (.dup, 1) := by decide +kernel
theorem dX10_setChannel_54 : decode cX10_setChannel 54 = .ok (.ldc 55, 2) := by decide +kernel
theorem dX10_setChannel_56 : decode cX10_setChannel 56 = .ok (.invokespecial 32, 3) := by decide +kernel
theorem dX10_setChannel_59 : decode cX10_setChannel 59 = .ok (.athrow, 1) := by decide +kernel
theorem dX10_setChannel_60 : decode cX10_setChannel 60 = .ok (.aload_n 0, 1) := by decide +kernel
theorem dX10_setChannel_61 : decode cX10_setChannel 61 = .ok (.invokevirtual 44, 3) := by decide +kernel
theorem dX10_setChannel_64 : decode cX10_setChannel 64 = .ok (.aload_n 0, 1) := by decide +kernel
theorem dX10_setChannel_65 : decode cX10_setChannel 65 = .ok (.getfield 10, 3) := by decide +kernel
theorem dX10_setChannel_68 : decode cX10_setChannel 68 = .ok (.getfield 57, 3) := by decide +kernel
theorem dX10_setChannel_71 : decode cX10_setChannel 71 = .ok (.iload_n 1, 1) := by decide +kernel
theorem dX10_setChannel_72 : decode cX10_setChannel 72 = .ok (.aaload, 1) := by decide +kernel
theorem dX10_setChannel_73 : decode cX10_setChannel 73 = .ok (.astore 5, 2) := by decide +kernel
theorem dX10_setChannel_75 : decode cX10_setChannel 75 = .ok (.aload 5, 2) := by decide +kernel
theorem dX10_setChannel_77 : decode cX10_setChannel 77 = .ok (.getfield 61, 3) := by decide +kernel
theorem dX10_setChannel_80 : decode cX10_setChannel 80 = .ok (.istore 6, 2) := by decide +kernel
theorem dX10_setChannel_82 : decode cX10_setChannel 82 = .ok (.aload 5, 2) := by decide +kernel
theorem dX10_setChannel_84 : decode cX10_setChannel 84 = .ok (.iload_n 2, 1) := by decide +kernel
theorem dX10_setChannel_85 : decode cX10_setChannel 85 = .ok (.putfield 61, 3) := by decide +kernel
theorem dX10_setChannel_88 : decode cX10_setChannel 88 = .ok (.aload 5, 2) := by decide +kernel
theorem dX10_setChannel_90 : decode cX10_setChannel 90 = .ok (.iload_n 3, 1) := by decide +kernel
theorem dX10_setChannel_91 : decode cX10_setChannel 91 = .ok (.putfield 66, 3) := by decide +kernel
theorem dX10_setChannel_94 : decode cX10_setChannel 94 = .ok (.aload 5, 2) := by decide +kernel
theorem dX10_setChannel_96 : decode cX10_setChannel 96 = .ok (.iload 4, 2) := by decide +kernel
theorem dX10_setChannel_98 : decode cX10_setChannel 98 = .ok (.putfield 69, 3) := by decide +kernel
theorem dX10_setChannel_101 : decode cX10_setChannel 101 = .ok (.iload 6, 2) := by decide +kernel
theorem dX10_setChannel_103 : decode cX10_setChannel 103 = .ok (.ireturn, 1) := by decide +kernel
theorem dX10_setClock_0 : decode cX10_setClock 0 = .ok (.iload_n 1, 1) := by decide +kernel
theorem dX10_setClock_1 : decode cX10_setClock 1 = .ok (.sipush (-1000), 3) := by decide +kernel
theorem dX10_setClock_4 : decode cX10_setClock 4 = .ok (.sipush 1000, 3) := by decide +kernel
theorem dX10_setClock_7 : decode cX10_setClock 7 = .ok (.invokestatic 24, 3) := by decide +kernel
theorem dX10_setClock_10 : decode cX10_setClock 10 = .ok (.ifCond .ne 13, 3) := by decide +kernel
theorem dX10_setClock_13 : decode cX10_setClock 13 = .ok (.iload_n 2, 1) := by decide +kernel
theorem dX10_setClock_14 : decode cX10_setClock 14 = .ok (.iconst 0, 1) := by decide +kernel
theorem dX10_setClock_15 : decode cX10_setClock 15 = .ok (.ldc 72, 2) := by decide +kernel
theorem dX10_setClock_17 : decode cX10_setClock 17 = .ok (.invokestatic 24, 3) := by decide +kernel
theorem dX10_setClock_20 : decode cX10_setClock 20 = .ok (.ifCond .eq 13, 3) := by decide +kernel
theorem dX10_setClock_23 : decode cX10_setClock 23 = .ok (.new 28, 3) := by decide +kernel
theorem dX10_setClock_26 : decode cX10_setClock 26 = .ok (.dup, 1) := by decide +kernel
theorem dX10_setClock_27 : decode cX10_setClock 27 = .ok (.ldc 73, 2) := by decide +kernel
theorem dX10_setClock_29 : decode cX10_setClock 29 = .ok (.invokespecial 32, 3) := by decide +kernel
theorem dX10_setClock_32 : decode cX10_setClock 32 = .ok (.athrow, 1) := by decide +kernel
theorem dX10_setClock_33 : decode cX10_setClock 33 = .ok (.aload_n 0, 1) := by decide +kernel
theorem dX10_setClock_34 : decode cX10_setClock 34 = .ok (.invokevirtual 44, 3) := by decide +kernel
theorem dX10_setClock_37 : decode cX10_setClock 37 = .ok (.aload_n 0, 1) := by decide +kernel
theorem dX10_setClock_38 : decode cX10_setClock 38 = .ok (.getfield 10, 3) := by decide +kernel
theorem dX10_setClock_41 : decode cX10_setClock 41 = .ok (.getfield 75, 3) := by decide +kernel
theorem dX10_setClock_44 : decode cX10_setClock 44 = .ok (.istore_n 3, 1) := by decide +kernel
theorem dX10_setClock_45 : decode cX10_setClock 45 = .ok (.aload_n 0, 1) := by decide +kernel
theorem dX10_setClock_46 : decode cX10_setClock 46 = .ok (.getfield 10, 3) := by decide +kernel
theorem dX10_setClock_49 : decode cX10_setClock 49 = .ok (.iload_n 1, 1) := by decide +kernel
theorem dX10_setClock_50 : decode cX10_setClock 50 = .ok (.putfield 75, 3) := by decide +kernel
theorem dX10_setClock_53 : decode cX10_setClock 53 = .ok (.aload_n 0, 1) := by decide +kernel
theorem dX10_setClock_54 : decode cX10_setClock 54 = .ok (.getfield 10, 3) := by decide +kernel
theorem dX10_setClock_57 : decode cX10_setClock 57 = .ok (.iload_n 2, 1) := by decide +kernel
theorem dX10_setClock_58 : decode cX10_setClock 58 = .ok (.putfield 78, 3) := by decide +kernel
theorem dX10_setClock_61 : decode cX10_setClock 61 = .ok (.iload_n 3, 1) := by decide +kernel
theorem dX10_setClock_62 : decode cX10_setClock 62 = .ok (.ireturn, 1) := by decide +kernel
theorem dX10_addPacket_0 : decode cX10_addPacket 0 = .ok (.iload_n 1, 1) := by decide +kernel
theorem dX10_addPacket_1 : decode cX10_addPacket 1 = .ok (.iconst 0, 1) := by decide +kernel
theorem dX10_addPacket_2 : decode cX10_addPacket 2 = .ok (.iconst 3, 1) := by decide +kernel
theorem dX10_addPacket_3 : decode cX10_addPacket 3 = .ok (.invokestatic 24, 3) := by decide +kernel
theorem dX10_addPacket_6 : decode cX10_addPacket 6 = .ok (.ifCond .eq 13, 3) := by decide +kernel
theorem dX10_addPacket_9 : decode cX10_addPacket 9 = .ok (.new 50, 3) := by decide +kernel
theorem dX10_addPacket_12 : decode cX10_addPacket 12 = .ok (.dup, 1) := by decide +kernel
theorem dX10_addPacket_13 : decode cX10_addPacket 13 = .ok (.ldc 52, 2) := by decide +kernel
theorem dX10_addPacket_15 : decode cX10_addPacket 15 = .ok (.invokespecial 54, 3) := by decide +kernel
theorem dX10_addPacket_18 : decode cX10_addPacket 18 = .ok (.athrow, 1) := by decide +kernel
theorem dX10_addPacket_19 : decode cX10_addPacket 19 = .ok (.iload_n 2, 1) := by decide +kernel
theorem dX10_addPacket_20 : decode cX10_addPacket 20 = .ok (.iconst 0, 1) := by decide +kernel
theorem dX10_addPacket_21 : decode cX10_addPacket 21 = .ok (.bipush 14, 2) := by decide +kernel
theorem dX10_addPacket_23 : decode cX10_addPacket 23 = .ok (.invokestatic 24, 3) := by decide +kernel
theorem dX10_addPacket_26 : decode cX10_addPacket 26 = .ok (.ifCond .ne 25, 3) := by decide +kernel
theorem dX10_addPacket_29 : decode cX10_addPacket 29 = .ok (.iload_n 3, 1) := by decide +kernel
theorem dX10_addPacket_30 : decode cX10_addPacket 30 = .ok (.iconst 1, 1) := by decide +kernel
theorem dX10_addPacket_31 : decode cX10_addPacket 31 = .ok (.bipush 50, 2) := by decide +kernel
theorem dX10_addPacket_33 : decode cX10_addPacket 33 = .ok (.invokestatic 24, 3) := by decide +kernel
theorem dX10_addPacket_36 : decode cX10_addPacket 36 = .ok (.ifCond .ne 15, 3) := by decide +kernel
theorem dX10_addPacket_39 : decode cX10_addPacket 39 = .ok (.iload 4, 2) := by decide +kernel
theorem dX10_addPacket_41 : decode cX10_addPacket 41 = .ok (.iconst 0, 1) := by decide +kernel
theorem dX10_addPacket_42 : decode cX10_addPacket 42 = .ok (.sipush 255, 3) := by decide +kernel
theorem dX10_addPacket_45 : decode cX10_addPacket 45 = .ok (.invokestatic 24, 3) := by decide +kernel
theorem dX10_addPacket_48 : decode cX10_addPacket 48 = .ok (.ifCond .eq 13, 3) := by decide +kernel
theorem dX10_addPacket_51 : decode cX10_addPacket 51 = .ok (.new 28, 3) := by decide +kernel
theorem dX10_addPacket_54 : decode cX10_addPacket 54 = .ok (.dup, 1) := by decide +kernel
theorem dX10_addPacket_55 : decode cX10_addPacket 55 = .ok (.ldc 81, 2) := by decide +kernel
theorem dX10_addPacket_57 : decode cX10_addPacket 57 = .ok (.invokespecial 32, 3) := by decide +kernel
theorem dX10_addPacket_60 : decode cX10_addPacket 60 = .ok (.athrow, 1) := by decide +kernel
theorem dX10_addPacket_61 : decode cX10_addPacket 61 = .ok (.aload_n 0, 1) := by decide +kernel
theorem dX10_addPacket_62 : decode cX10_addPacket 62 = .ok (.getfield 10, 3) := by decide +kernel
theorem dX10_addPacket_65 : decode cX10_addPacket 65 = .ok (.getfield 57, 3) := by decide +kernel
theorem dX10_addPacket_68 : decode cX10_addPacket 68 = .ok (.iload_n 1, 1) := by decide +kernel
theorem dX10_addPacket_69 : decode cX10_addPacket 69 = .ok (.aaload, 1) := by decide +kernel
theorem dX10_addPacket_70 : decode cX10_addPacket 70 = .ok (.invokevirtual 83, 3) := by decide +kernel
theorem dX10_addPacket_73 : decode cX10_addPacket 73 = .ok (.bipush 12, 2) := by decide +kernel
theorem dX10_addPacket_75 : decode cX10_addPacket 75 = .ok (.if_icmp .lt 13, 3) := by decide +kernel
theorem dX10_addPacket_78 : decode cX10_addPacket 78 = .ok (.new 39, 3) := by decide +kernel
theorem dX10_addPacket_81 : decode cX10_addPacket 81 = .ok (.dup, 1) := by decide +kernel
theorem dX10_addPacket_82 : decode cX10_addPacket 82 = .ok (.ldc 87, 2) := by decide +kernel
theorem dX10_addPacket_84 : decode cX10_addPacket 84 = .ok (.invokespecial 43, 3) := by decide +kernel
theorem dX10_addPacket_87 : decode cX10_addPacket 87 = .ok (.athrow, 1) := by decide +kernel
theorem dX10_addPacket_88 : decode cX10_addPacket 88 = .ok (.aload_n 0, 1) := by decide +kernel
theorem dX10_addPacket_89 : decode cX10_addPacket 89 = .ok (.invokevirtual 44, 3) := by decide +kernel
theorem dX10_addPacket_92 : decode cX10_addPacket 92 = .ok (.aload_n 0, 1) := by decide +kernel
theorem dX10_addPacket_93 : decode cX10_addPacket 93 = .ok (.getfield 10, 3) := by decide +kernel
theorem dX10_addPacket_96 : decode cX10_addPacket 96 = .ok (.iload_n 1, 1) := by decide +kernel
theorem dX10_addPacket_97 : decode cX10_addPacket 97 = .ok (.iload_n 2, 1) := by decide +kernel
theorem dX10_addPacket_98 : decode cX10_addPacket 98 = .ok (.iload_n 3, 1) := by decide +kernel
theorem dX10_addPacket_99 : decode cX10_addPacket 99 = .ok (.iload 4, 2) := by decide +kernel
theorem dX10_addPacket_101 : decode cX10_addPacket 101 = .ok (.invokevirtual 89, 3) := by decide +kernel
theorem dX10_addPacket_104 : decode cX10_addPacket 104 = .ok (.ireturn, 1) := by decide +kernel
theorem dX10_queue_0 : decode cX10_queue 0 = .ok (.iload_n 1, 1) := by decide +kernel
theorem dX10_queue_1 : decode cX10_queue 1 = .ok (.iconst 0, 1) := by decide +kernel
theorem dX10_queue_2 : decode cX10_queue 2 = .ok (.iconst 3, 1) := by decide +kernel
theorem dX10_queue_3 : decode cX10_queue 3 = .ok (.invokestatic 24, 3) := by decide +kernel
theorem dX10_queue_6 : decode cX10_queue 6 = .ok (.ifCond .eq 13, 3) := by decide +kernel
theorem dX10_queue_9 : decode cX10_queue 9 = .ok (.new 50, 3) := by decide +kernel
theorem dX10_queue_12 : decode cX10_queue 12 = .ok (.dup, 1) := by decide +kernel
theorem dX10_queue_13 : decode cX10_queue 13 = .ok (.ldc 52, 2) := by decide +kernel
theorem dX10_queue_15 : decode cX10_queue 15 = .ok (.invokespecial 54, 3) := by decide +kernel
theorem dX10_queue_18 : decode cX10_queue 18 = .ok (.athrow, 1) := by decide +kernel
theorem dX10_queue_19 : decode cX10_queue 19 = .ok (.aload_n 0, 1) := by decide +kernel
theorem dX10_queue_20 : decode cX10_queue 20 = .ok (.getfield 10, 3) := by decide +kernel
theorem dX10_queue_23 : decode cX10_queue 23 = .ok (.getfield 57, 3) := by decide +kernel
theorem dX10_queue_26 : decode cX10_queue 26 = .ok (.iload_n 1, 1) := by decide +kernel
theorem dX10_queue_27 : decode cX10_queue 27 = .ok (.aaload, 1) := by decide +kernel
theorem dX10_queue_28 : decode cX10_queue 28 = .ok (.astore_n 3, 1) := by decide +kernel
theorem dX10_queue_29 : decode cX10_queue 29 = .ok (.iload_n 2, 1) := by decide +kernel
theorem dX10_queue_30 : decode cX10_queue 30 = .ok (.tableswitch 41 0 2 #[26, 31, 36], 26) := by decide +kernel
theorem dX10_queue_56 : decode cX10_queue 56 = .ok (.aload_n 3, 1) := by decide +kernel
theorem dX10_queue_57 : decode cX10_queue 57 = .ok (.invokevirtual 83, 3) := by decide +kernel
theorem dX10_queue_60 : decode cX10_queue 60 = .ok (.ireturn, 1) := by decide +kernel
theorem dX10_queue_61 : decode cX10_queue 61 = .ok (.aload_n 3, 1) := by decide +kernel
theorem dX10_queue_62 : decode cX10_queue 62 = .ok (.getfield 93, 3) := by decide +kernel
theorem dX10_queue_65 : decode cX10_queue 65 = .ok (.ireturn, 1) := by decide +kernel
theorem dX10_queue_66 : decode cX10_queue 66 = .ok (.aload_n 3, 1) := by decide +kernel
theorem dX10_queue_67 : decode cX10_queue 67 = .ok (.getfield 96, 3) := by decide +kernel
theorem dX10_queue_70 : decode cX10_queue 70 = .ok (.ireturn, 1) := by decide +kernel
theorem dX10_queue_71 : decode cX10_queue 71 = .ok (.new 28, 3) := by decide +kernel
theorem dX10_queue_74 : decode cX10_queue 74 = .ok (.dup, 1) := by decide +kernel
theorem dX10_queue_75 : decode cX10_queue 75 = .ok (.ldc 99, 2) := by decide +kernel
theorem dX10_queue_77 : decode cX10_queue 77 = .ok (.invokespecial 32, 3) := by decide +kernel
theorem dX10_queue_80 : decode cX10_queue 80 = .ok (.athrow, 1) := by decide +kernel
theorem dX10_nextChannel_0 : decode cX10_nextChannel 0 = .ok (.aload_n 0, 1) := by decide +kernel
theorem dX10_nextChannel_1 : decode cX10_nextChannel 1 = .ok (.getfield 10, 3) := by decide +kernel
theorem dX10_nextChannel_4 : decode cX10_nextChannel 4 = .ok (.invokevirtual 101, 3) := by decide +kernel
theorem dX10_nextChannel_7 : decode cX10_nextChannel 7 = .ok (.ireturn, 1) := by decide +kernel
theorem dX10_send_0 : decode cX10_send 0 = .ok (.iload_n 1, 1) := by decide +kernel
theorem dX10_send_1 : decode cX10_send 1 = .ok (.iconst 1, 1) := by decide +kernel
theorem dX10_send_2 : decode cX10_send 2 = .ok (.bipush 60, 2) := by decide +kernel
theorem dX10_send_4 : decode cX10_send 4 = .ok (.invokestatic 24, 3) := by decide +kernel
theorem dX10_send_7 : decode cX10_send 7 = .ok (.ifCond .eq 13, 3) := by decide +kernel
theorem dX10_send_10 : decode cX10_send 10 = .ok (.new 28, 3) := by decide +kernel
theorem dX10_send_13 : decode cX10_send 13 = .ok (.dup, 1) := by decide +kernel
theorem dX10_send_14 : decode cX10_send 14 = .ok (.ldc 104, 2) := by decide +kernel
theorem dX10_send_16 : decode cX10_send 16 = .ok (.invokespecial 32, 3) := by decide +kernel
theorem dX10_send_19 : decode cX10_send 19 = .ok (.athrow, 1) := by decide +kernel
theorem dX10_send_20 : decode cX10_send 20 = .ok (.aload_n 0, 1) := by decide +kernel
theorem dX10_send_21 : decode cX10_send 21 = .ok (.getfield 10, 3) := by decide +kernel
theorem dX10_send_24 : decode cX10_send 24 = .ok (.getfield 106, 3) := by decide +kernel
theorem dX10_send_27 : decode cX10_send 27 = .ok (.getfield 110, 3) := by decide +kernel
theorem dX10_send_30 : decode cX10_send 30 = .ok (.iload_n 1, 1) := by decide +kernel
theorem dX10_send_31 : decode cX10_send 31 = .ok (.iadd, 1) := by decide +kernel
theorem dX10_send_32 : decode cX10_send 32 = .ok (.bipush 60, 2) := by decide +kernel
theorem dX10_send_34 : decode cX10_send 34 = .ok (.if_icmp .le 13, 3) := by decide +kernel
theorem dX10_send_37 : decode cX10_send 37 = .ok (.new 39, 3) := by decide +kernel
theorem dX10_send_40 : decode cX10_send 40 = .ok (.dup, 1) := by decide +kernel
theorem dX10_send_41 : decode cX10_send 41 = .ok (.ldc 115, 2) := by decide +kernel
theorem dX10_send_43 : decode cX10_send 43 = .ok (.invokespecial 43, 3) := by decide +kernel
theorem dX10_send_46 : decode cX10_send 46 = .ok (.athrow, 1) := by decide +kernel
theorem dX10_send_47 : decode cX10_send 47 = .ok (.aload_n 0, 1) := by decide +kernel
theorem dX10_send_48 : decode cX10_send 48 = .ok (.invokevirtual 44, 3) := by decide +kernel
theorem dX10_send_51 : decode cX10_send 51 = .ok (.iconst 0, 1) := by decide +kernel
theorem dX10_send_52 : decode cX10_send 52 = .ok (.istore_n 2, 1) := by decide +kernel
theorem dX10_send_53 : decode cX10_send 53 = .ok (.iconst 0, 1) := by decide +kernel
theorem dX10_send_54 : decode cX10_send 54 = .ok (.istore_n 3, 1) := by decide +kernel
theorem dX10_send_55 : decode cX10_send 55 = .ok (.iload_n 3, 1) := by decide +kernel
theorem dX10_send_56 : decode cX10_send 56 = .ok (.iload_n 1, 1) := by decide +kernel
theorem dX10_send_57 : decode cX10_send 57 = .ok (.if_icmp .ge 23, 3) := by decide +kernel
theorem dX10_send_60 : decode cX10_send 60 = .ok (.aload_n 0, 1) := by decide +kernel
theorem dX10_send_61 : decode cX10_send 61 = .ok (.getfield 10, 3) := by decide +kernel
theorem dX10_send_64 : decode cX10_send 64 = .ok (.invokevirtual 117, 3) := by decide +kernel
theorem dX10_send_67 : decode cX10_send 67 = .ok (.iconst (-1), 1) := by decide +kernel
theorem dX10_send_68 : decode cX10_send 68 = .ok (.if_icmp .eq 6, 3) := by decide +kernel
theorem dX10_send_71 : decode cX10_send 71 = .ok (.iinc 2 1, 3) := by decide +kernel
theorem dX10_send_74 : decode cX10_send 74 = .ok (.iinc 3 1, 3) := by decide +kernel
theorem dX10_send_77 : decode cX10_send 77 = .ok (.goto (-22), 3) := by decide +kernel
theorem dX10_send_80 : decode cX10_send 80 = .ok (.iload_n 2, 1) := by decide +kernel
theorem dX10_send_81 : decode cX10_send 81 = .ok (.ireturn, 1) := by decide +kernel
theorem dX10_slot_0 : decode cX10_slot 0 = .ok (.aload_n 0, 1) := by decide +kernel
theorem dX10_slot_1 : decode cX10_slot 1 = .ok (.getfield 10, 3) := by decide +kernel
theorem dX10_slot_4 : decode cX10_slot 4 = .ok (.getfield 120, 3) := by decide +kernel
theorem dX10_slot_7 : decode cX10_slot 7 = .ok (.ireturn, 1) := by decide +kernel
theorem dX10_sent_0 : decode cX10_sent 0 = .ok (.iload_n 1, 1) := by decide +kernel
theorem dX10_sent_1 : decode cX10_sent 1 = .ok (.iconst 0, 1) := by decide +kernel
theorem dX10_sent_2 : decode cX10_sent 2 = .ok (.iconst 3, 1) := by decide +kernel
theorem dX10_sent_3 : decode cX10_sent 3 = .ok (.invokestatic 24, 3) := by decide +kernel
theorem dX10_sent_6 : decode cX10_sent 6 = .ok (.ifCond .eq 19, 3) := by decide +kernel
theorem dX10_sent_9 : decode cX10_sent 9 = .ok (.iload_n 1, 1) := by decide +kernel
theorem dX10_sent_10 : decode cX10_sent 10 = .ok (.bipush 7, 2) := by decide +kernel
theorem dX10_sent_12 : decode cX10_sent 12 = .ok (.if_icmp .eq 13, 3) := by decide +kernel
theorem dX10_sent_15 : decode cX10_sent 15 = .ok (.new 50, 3) := by decide +kernel
theorem dX10_sent_18 : decode cX10_sent 18 = .ok (.dup, 1) := by decide +kernel
theorem dX10_sent_19 : decode cX10_sent 19 = .ok (.ldc 52, 2) := by decide +kernel
theorem dX10_sent_21 : decode cX10_sent 21 = .ok (.invokespecial 54, 3) := by decide +kernel
theorem dX10_sent_24 : decode cX10_sent 24 = .ok (.athrow, 1) := by decide +kernel
theorem dX10_sent_25 : decode cX10_sent 25 = .ok (.iload_n 2, 1) := by decide +kernel
theorem dX10_sent_26 : decode cX10_sent 26 = .ok (.iconst 0, 1) := by decide +kernel
theorem dX10_sent_27 : decode cX10_sent 27 = .ok (.iconst 2, 1) := by decide +kernel
theorem dX10_sent_28 : decode cX10_sent 28 = .ok (.invokestatic 24, 3) := by decide +kernel
theorem dX10_sent_31 : decode cX10_sent 31 = .ok (.ifCond .eq 13, 3) := by decide +kernel
theorem dX10_sent_34 : decode cX10_sent 34 = .ok (.new 28, 3) := by decide +kernel
theorem dX10_sent_37 : decode cX10_sent 37 = .ok (.dup, 1) := by decide +kernel
theorem dX10_sent_38 : decode cX10_sent 38 = .ok (.ldc 99, 2) := by decide +kernel
theorem dX10_sent_40 : decode cX10_sent 40 = .ok (.invokespecial 32, 3) := by decide +kernel
theorem dX10_sent_43 : decode cX10_sent 43 = .ok (.athrow, 1) := by decide +kernel
theorem dX10_sent_44 : decode cX10_sent 44 = .ok (.iload_n 1, 1) := by decide +kernel
theorem dX10_sent_45 : decode cX10_sent 45 = .ok (.bipush 7, 2) := by decide +kernel
theorem dX10_sent_47 : decode cX10_sent 47 = .ok (.if_icmp .ne 9, 3) := by decide +kernel
theorem dX10_sent_50 : decode cX10_sent 50 = .ok (.aload_n 0, 1) := by decide +kernel
theorem dX10_sent_51 : decode cX10_sent 51 = .ok (.iload_n 2, 1) := by decide +kernel
theorem dX10_sent_52 : decode cX10_sent 52 = .ok (.invokevirtual 123, 3) := by decide +kernel
theorem dX10_sent_55 : decode cX10_sent 55 = .ok (.ireturn, 1) := by decide +kernel
theorem dX10_sent_56 : decode cX10_sent 56 = .ok (.aload_n 0, 1) := by decide +kernel
theorem dX10_sent_57 : decode cX10_sent 57 = .ok (.getfield 10, 3) := by decide +kernel
theorem dX10_sent_60 : decode cX10_sent 60 = .ok (.getfield 57, 3) := by decide +kernel
theorem dX10_sent_63 : decode cX10_sent 63 = .ok (.iload_n 1, 1) := by decide +kernel
theorem dX10_sent_64 : decode cX10_sent 64 = .ok (.aaload, 1) := by decide +kernel
theorem dX10_sent_65 : decode cX10_sent 65 = .ok (.astore_n 3, 1) := by decide +kernel
theorem dX10_sent_66 : decode cX10_sent 66 = .ok (.iload_n 2, 1) := by decide +kernel
theorem dX10_sent_67 : decode cX10_sent 67 = .ok (.ifCond .ne 8, 3) := by decide +kernel
theorem dX10_sent_70 : decode cX10_sent 70 = .ok (.aload_n 3, 1) := by decide +kernel
theorem dX10_sent_71 : decode cX10_sent 71 = .ok (.getfield 127, 3) := by decide +kernel
theorem dX10_sent_74 : decode cX10_sent 74 = .ok (.ireturn, 1) := by decide +kernel
theorem dX10_sent_75 : decode cX10_sent 75 = .ok (.iload_n 2, 1) := by decide +kernel
theorem dX10_sent_76 : decode cX10_sent 76 = .ok (.iconst 1, 1) := by decide +kernel
theorem dX10_sent_77 : decode cX10_sent 77 = .ok (.if_icmp .ne 10, 3) := by decide +kernel
theorem dX10_sent_80 : decode cX10_sent 80 = .ok (.aload_n 3, 1) := by decide +kernel
theorem dX10_sent_81 : decode cX10_sent 81 = .ok (.getfield 130, 3) := by decide +kernel
theorem dX10_sent_84 : decode cX10_sent 84 = .ok (.goto 7, 3) := by decide +kernel
theorem dX10_sent_87 : decode cX10_sent 87 = .ok (.aload_n 3, 1) := by decide +kernel
theorem dX10_sent_88 : decode cX10_sent 88 = .ok (.getfield 133, 3) := by decide +kernel
theorem dX10_sent_91 : decode cX10_sent 91 = .ok (.ireturn, 1) := by decide +kernel
theorem dX10_sentIdle_0 : decode cX10_sentIdle 0 = .ok (.iload_n 1, 1) := by decide +kernel
theorem dX10_sentIdle_1 : decode cX10_sentIdle 1 = .ok (.ifCond .ne 11, 3) := by decide +kernel
theorem dX10_sentIdle_4 : decode cX10_sentIdle 4 = .ok (.aload_n 0, 1) := by decide +kernel
theorem dX10_sentIdle_5 : decode cX10_sentIdle 5 = .ok (.getfield 10, 3) := by decide +kernel
theorem dX10_sentIdle_8 : decode cX10_sentIdle 8 = .ok (.getfield 136, 3) := by decide +kernel
theorem dX10_sentIdle_11 : decode cX10_sentIdle 11 = .ok (.ireturn, 1) := by decide +kernel
theorem dX10_sentIdle_12 : decode cX10_sentIdle 12 = .ok (.iload_n 1, 1) := by decide +kernel
theorem dX10_sentIdle_13 : decode cX10_sentIdle 13 = .ok (.iconst 1, 1) := by decide +kernel
theorem dX10_sentIdle_14 : decode cX10_sentIdle 14 = .ok (.if_icmp .ne 7, 3) := by decide +kernel
theorem dX10_sentIdle_17 : decode cX10_sentIdle 17 = .ok (.iconst 0, 1) := by decide +kernel
theorem dX10_sentIdle_18 : decode cX10_sentIdle 18 = .ok (.goto 4, 3) := by decide +kernel
theorem dX10_sentIdle_21 : decode cX10_sentIdle 21 = .ok (.iconst (-1), 1) := by decide +kernel
theorem dX10_sentIdle_22 : decode cX10_sentIdle 22 = .ok (.ireturn, 1) := by decide +kernel
theorem dX10_wire_0 : decode cX10_wire 0 = .ok (.aload_n 0, 1) := by decide +kernel
theorem dX10_wire_1 : decode cX10_wire 1 = .ok (.getfield 10, 3) := by decide +kernel
theorem dX10_wire_4 : decode cX10_wire 4 = .ok (.getfield 106, 3) := by decide +kernel
theorem dX10_wire_7 : decode cX10_wire 7 = .ok (.getfield 110, 3) := by decide +kernel
theorem dX10_wire_10 : decode cX10_wire 10 = .ok (.ireturn, 1) := by decide +kernel
theorem dX10_frameByte_0 : decode cX10_frameByte 0 = .ok (.iload_n 1, 1) := by decide +kernel
theorem dX10_frameByte_1 : decode cX10_frameByte 1 = .ok (.iconst 0, 1) := by decide +kernel
theorem dX10_frameByte_2 : decode cX10_frameByte 2 = .ok (.aload_n 0, 1) := by decide +kernel
theorem dX10_frameByte_3 : decode cX10_frameByte 3 = .ok (.getfield 10, 3) := by decide +kernel
theorem dX10_frameByte_6 : decode cX10_frameByte 6 = .ok (.getfield 106, 3) := by decide +kernel
theorem dX10_frameByte_9 : decode cX10_frameByte 9 = .ok (.getfield 110, 3) := by decide +kernel
theorem dX10_frameByte_12 : decode cX10_frameByte 12 = .ok (.iconst 1, 1) := by decide +kernel
theorem dX10_frameByte_13 : decode cX10_frameByte 13 = .ok (.isub, 1) := by decide +kernel
theorem dX10_frameByte_14 : decode cX10_frameByte 14 = .ok (.invokestatic 24, 3) := by decide +kernel
theorem dX10_frameByte_17 : decode cX10_frameByte 17 = .ok (.ifCond .ne 28, 3) := by decide +kernel
theorem dX10_frameByte_20 : decode cX10_frameByte 20 = .ok (.iload_n 2, 1) := by decide +kernel
theorem dX10_frameByte_21 : decode cX10_frameByte 21 = .ok (.iconst 0, 1) := by decide +kernel
theorem dX10_frameByte_22 : decode cX10_frameByte 22 = .ok (.aload_n 0, 1) := by decide +kernel
theorem dX10_frameByte_23 : decode cX10_frameByte 23 = .ok (.getfield 10, 3) := by decide +kernel
theorem dX10_frameByte_26 : decode cX10_frameByte 26 = .ok (.getfield 106, 3) := by decide +kernel
theorem dX10_frameByte_29 : decode cX10_frameByte 29 = .ok (.getfield 139, 3) := by decide +kernel
theorem dX10_frameByte_32 : decode cX10_frameByte 32 = .ok (.iload_n 1, 1) := by decide +kernel
theorem dX10_frameByte_33 : decode cX10_frameByte 33 = .ok (.aaload, 1) := by decide +kernel
theorem dX10_frameByte_34 : decode cX10_frameByte 34 = .ok (.invokevirtual 142, 3) := by decide +kernel
theorem dX10_frameByte_37 : decode cX10_frameByte 37 = .ok (.iconst 1, 1) := by decide +kernel
theorem dX10_frameByte_38 : decode cX10_frameByte 38 = .ok (.isub, 1) := by decide +kernel
theorem dX10_frameByte_39 : decode cX10_frameByte 39 = .ok (.invokestatic 24, 3) := by decide +kernel
theorem dX10_frameByte_42 : decode cX10_frameByte 42 = .ok (.ifCond .eq 13, 3) := by decide +kernel
theorem dX10_frameByte_45 : decode cX10_frameByte 45 = .ok (.new 50, 3) := by decide +kernel
theorem dX10_frameByte_48 : decode cX10_frameByte 48 = .ok (.dup, 1) := by decide +kernel
theorem dX10_frameByte_49 : decode cX10_frameByte 49 = .ok (.ldc 146, 2) := by decide +kernel
theorem dX10_frameByte_51 : decode cX10_frameByte 51 = .ok (.invokespecial 54, 3) := by decide +kernel
theorem dX10_frameByte_54 : decode cX10_frameByte 54 = .ok (.athrow, 1) := by decide +kernel
theorem dX10_frameByte_55 : decode cX10_frameByte 55 = .ok (.aload_n 0, 1) := by decide +kernel
theorem dX10_frameByte_56 : decode cX10_frameByte 56 = .ok (.getfield 10, 3) := by decide +kernel
theorem dX10_frameByte_59 : decode cX10_frameByte 59 = .ok (.getfield 106, 3) := by decide +kernel
theorem dX10_frameByte_62 : decode cX10_frameByte 62 = .ok (.getfield 139, 3) := by decide +kernel
theorem dX10_frameByte_65 : decode cX10_frameByte 65 = .ok (.iload_n 1, 1) := by decide +kernel
theorem dX10_frameByte_66 : decode cX10_frameByte 66 = .ok (.aaload, 1) := by decide +kernel
theorem dX10_frameByte_67 : decode cX10_frameByte 67 = .ok (.getfield 148, 3) := by decide +kernel
theorem dX10_frameByte_70 : decode cX10_frameByte 70 = .ok (.iload_n 2, 1) := by decide +kernel
theorem dX10_frameByte_71 : decode cX10_frameByte 71 = .ok (.iaload, 1) := by decide +kernel
theorem dX10_frameByte_72 : decode cX10_frameByte 72 = .ok (.ireturn, 1) := by decide +kernel
theorem dX10_corrupt_0 : decode cX10_corrupt 0 = .ok (.iload_n 1, 1) := by decide +kernel
theorem dX10_corrupt_1 : decode cX10_corrupt 1 = .ok (.iconst 0, 1) := by decide +kernel
theorem dX10_corrupt_2 : decode cX10_corrupt 2 = .ok (.aload_n 0, 1) := by decide +kernel
theorem dX10_corrupt_3 : decode cX10_corrupt 3 = .ok (.getfield 10, 3) := by decide +kernel
theorem dX10_corrupt_6 : decode cX10_corrupt 6 = .ok (.getfield 106, 3) := by decide +kernel
theorem dX10_corrupt_9 : decode cX10_corrupt 9 = .ok (.getfield 110, 3) := by decide +kernel
theorem dX10_corrupt_12 : decode cX10_corrupt 12 = .ok (.iconst 1, 1) := by decide +kernel
theorem dX10_corrupt_13 : decode cX10_corrupt 13 = .ok (.isub, 1) := by decide +kernel
theorem dX10_corrupt_14 : decode cX10_corrupt 14 = .ok (.invokestatic 24, 3) := by decide +kernel
theorem dX10_corrupt_17 : decode cX10_corrupt 17 = .ok (.ifCond .ne 28, 3) := by decide +kernel
theorem dX10_corrupt_20 : decode cX10_corrupt 20 = .ok (.iload_n 2, 1) := by decide +kernel
theorem dX10_corrupt_21 : decode cX10_corrupt 21 = .ok (.iconst 0, 1) := by decide +kernel
theorem dX10_corrupt_22 : decode cX10_corrupt 22 = .ok (.aload_n 0, 1) := by decide +kernel
theorem dX10_corrupt_23 : decode cX10_corrupt 23 = .ok (.getfield 10, 3) := by decide +kernel
theorem dX10_corrupt_26 : decode cX10_corrupt 26 = .ok (.getfield 106, 3) := by decide +kernel
theorem dX10_corrupt_29 : decode cX10_corrupt 29 = .ok (.getfield 139, 3) := by decide +kernel
theorem dX10_corrupt_32 : decode cX10_corrupt 32 = .ok (.iload_n 1, 1) := by decide +kernel
theorem dX10_corrupt_33 : decode cX10_corrupt 33 = .ok (.aaload, 1) := by decide +kernel
theorem dX10_corrupt_34 : decode cX10_corrupt 34 = .ok (.invokevirtual 142, 3) := by decide +kernel
theorem dX10_corrupt_37 : decode cX10_corrupt 37 = .ok (.iconst 1, 1) := by decide +kernel
theorem dX10_corrupt_38 : decode cX10_corrupt 38 = .ok (.isub, 1) := by decide +kernel
theorem dX10_corrupt_39 : decode cX10_corrupt 39 = .ok (.invokestatic 24, 3) := by decide +kernel
theorem dX10_corrupt_42 : decode cX10_corrupt 42 = .ok (.ifCond .eq 13, 3) := by decide +kernel
theorem dX10_corrupt_45 : decode cX10_corrupt 45 = .ok (.new 50, 3) := by decide +kernel
theorem dX10_corrupt_48 : decode cX10_corrupt 48 = .ok (.dup, 1) := by decide +kernel
theorem dX10_corrupt_49 : decode cX10_corrupt 49 = .ok (.ldc 146, 2) := by decide +kernel
theorem dX10_corrupt_51 : decode cX10_corrupt 51 = .ok (.invokespecial 54, 3) := by decide +kernel
theorem dX10_corrupt_54 : decode cX10_corrupt 54 = .ok (.athrow, 1) := by decide +kernel
theorem dX10_corrupt_55 : decode cX10_corrupt 55 = .ok (.iload_n 3, 1) := by decide +kernel
theorem dX10_corrupt_56 : decode cX10_corrupt 56 = .ok (.iconst 1, 1) := by decide +kernel
theorem dX10_corrupt_57 : decode cX10_corrupt 57 = .ok (.sipush 255, 3) := by decide +kernel
theorem dX10_corrupt_60 : decode cX10_corrupt 60 = .ok (.invokestatic 24, 3) := by decide +kernel
theorem dX10_corrupt_63 : decode cX10_corrupt 63 = .ok (.ifCond .eq 13, 3) := by decide +kernel
theorem dX10_corrupt_66 : decode cX10_corrupt 66 = .ok (.new 28, 3) := by decide +kernel
theorem dX10_corrupt_69 : decode cX10_corrupt 69 = .ok (.dup, 1) := by decide +kernel
theorem dX10_corrupt_70 : decode cX10_corrupt 70 = .ok (.ldc 152, 2) := by decide +kernel
theorem dX10_corrupt_72 : decode cX10_corrupt 72 = .ok (.invokespecial 32, 3) := by decide +kernel
theorem dX10_corrupt_75 : decode cX10_corrupt 75 = .ok (.athrow, 1) := by decide +kernel
theorem dX10_corrupt_76 : decode cX10_corrupt 76 = .ok (.aload_n 0, 1) := by decide +kernel
theorem dX10_corrupt_77 : decode cX10_corrupt 77 = .ok (.invokevirtual 44, 3) := by decide +kernel
theorem dX10_corrupt_80 : decode cX10_corrupt 80 = .ok (.aload_n 0, 1) := by decide +kernel
theorem dX10_corrupt_81 : decode cX10_corrupt 81 = .ok (.getfield 10, 3) := by decide +kernel
theorem dX10_corrupt_84 : decode cX10_corrupt 84 = .ok (.getfield 106, 3) := by decide +kernel
theorem dX10_corrupt_87 : decode cX10_corrupt 87 = .ok (.getfield 139, 3) := by decide +kernel
theorem dX10_corrupt_90 : decode cX10_corrupt 90 = .ok (.iload_n 1, 1) := by decide +kernel
theorem dX10_corrupt_91 : decode cX10_corrupt 91 = .ok (.aaload, 1) := by decide +kernel
theorem dX10_corrupt_92 : decode cX10_corrupt 92 = .ok (.getfield 148, 3) := by decide +kernel
theorem dX10_corrupt_95 : decode cX10_corrupt 95 = .ok (.astore 4, 2) := by decide +kernel
theorem dX10_corrupt_97 : decode cX10_corrupt 97 = .ok (.aload 4, 2) := by decide +kernel
theorem dX10_corrupt_99 : decode cX10_corrupt 99 = .ok (.iload_n 2, 1) := by decide +kernel
theorem dX10_corrupt_100 : decode cX10_corrupt 100 = .ok (.dup2, 1) := by decide +kernel
theorem dX10_corrupt_101 : decode cX10_corrupt 101 = .ok (.iaload, 1) := by decide +kernel
theorem dX10_corrupt_102 : decode cX10_corrupt 102 = .ok (.iload_n 3, 1) := by decide +kernel
theorem dX10_corrupt_103 : decode cX10_corrupt 103 = .ok (.ixor, 1) := by decide +kernel
theorem dX10_corrupt_104 : decode cX10_corrupt 104 = .ok (.iastore, 1) := by decide +kernel
theorem dX10_corrupt_105 : decode cX10_corrupt 105 = .ok (.aload 4, 2) := by decide +kernel
theorem dX10_corrupt_107 : decode cX10_corrupt 107 = .ok (.iload_n 2, 1) := by decide +kernel
theorem dX10_corrupt_108 : decode cX10_corrupt 108 = .ok (.iaload, 1) := by decide +kernel
theorem dX10_corrupt_109 : decode cX10_corrupt 109 = .ok (.ireturn, 1) := by decide +kernel
theorem dX10_repair_0 : decode cX10_repair 0 = .ok (.iload_n 1, 1) := by decide +kernel
theorem dX10_repair_1 : decode cX10_repair 1 = .ok (.iconst 0, 1) := by decide +kernel
theorem dX10_repair_2 : decode cX10_repair 2 = .ok (.aload_n 0, 1) := by decide +kernel
theorem dX10_repair_3 : decode cX10_repair 3 = .ok (.getfield 10, 3) := by decide +kernel
theorem dX10_repair_6 : decode cX10_repair 6 = .ok (.getfield 106, 3) := by decide +kernel
theorem dX10_repair_9 : decode cX10_repair 9 = .ok (.getfield 110, 3) := by decide +kernel
theorem dX10_repair_12 : decode cX10_repair 12 = .ok (.iconst 1, 1) := by decide +kernel
theorem dX10_repair_13 : decode cX10_repair 13 = .ok (.isub, 1) := by decide +kernel
theorem dX10_repair_14 : decode cX10_repair 14 = .ok (.invokestatic 24, 3) := by decide +kernel
theorem dX10_repair_17 : decode cX10_repair 17 = .ok (.ifCond .eq 13, 3) := by decide +kernel
theorem dX10_repair_20 : decode cX10_repair 20 = .ok (.new 50, 3) := by decide +kernel
theorem dX10_repair_23 : decode cX10_repair 23 = .ok (.dup, 1) := by decide +kernel
theorem dX10_repair_24 : decode cX10_repair 24 = .ok (.ldc 154, 2) := by decide +kernel
theorem dX10_repair_26 : decode cX10_repair 26 = .ok (.invokespecial 54, 3) := by decide +kernel
theorem dX10_repair_29 : decode cX10_repair 29 = .ok (.athrow, 1) := by decide +kernel
theorem dX10_repair_30 : decode cX10_repair 30 = .ok (.aload_n 0, 1) := by decide +kernel
theorem dX10_repair_31 : decode cX10_repair 31 = .ok (.invokevirtual 44, 3) := by decide +kernel
theorem dX10_repair_34 : decode cX10_repair 34 = .ok (.aload_n 0, 1) := by decide +kernel
theorem dX10_repair_35 : decode cX10_repair 35 = .ok (.getfield 10, 3) := by decide +kernel
theorem dX10_repair_38 : decode cX10_repair 38 = .ok (.getfield 106, 3) := by decide +kernel
theorem dX10_repair_41 : decode cX10_repair 41 = .ok (.getfield 139, 3) := by decide +kernel
theorem dX10_repair_44 : decode cX10_repair 44 = .ok (.iload_n 1, 1) := by decide +kernel
theorem dX10_repair_45 : decode cX10_repair 45 = .ok (.aaload, 1) := by decide +kernel
theorem dX10_repair_46 : decode cX10_repair 46 = .ok (.invokevirtual 156, 3) := by decide +kernel
theorem dX10_repair_49 : decode cX10_repair 49 = .ok (.ireturn, 1) := by decide +kernel
theorem dX10_lose_0 : decode cX10_lose 0 = .ok (.iload_n 1, 1) := by decide +kernel
theorem dX10_lose_1 : decode cX10_lose 1 = .ok (.iconst 0, 1) := by decide +kernel
theorem dX10_lose_2 : decode cX10_lose 2 = .ok (.aload_n 0, 1) := by decide +kernel
theorem dX10_lose_3 : decode cX10_lose 3 = .ok (.getfield 10, 3) := by decide +kernel
theorem dX10_lose_6 : decode cX10_lose 6 = .ok (.getfield 106, 3) := by decide +kernel
theorem dX10_lose_9 : decode cX10_lose 9 = .ok (.getfield 110, 3) := by decide +kernel
theorem dX10_lose_12 : decode cX10_lose 12 = .ok (.iconst 1, 1) := by decide +kernel
theorem dX10_lose_13 : decode cX10_lose 13 = .ok (.isub, 1) := by decide +kernel
theorem dX10_lose_14 : decode cX10_lose 14 = .ok (.invokestatic 24, 3) := by decide +kernel
theorem dX10_lose_17 : decode cX10_lose 17 = .ok (.ifCond .eq 13, 3) := by decide +kernel
theorem dX10_lose_20 : decode cX10_lose 20 = .ok (.new 50, 3) := by decide +kernel
theorem dX10_lose_23 : decode cX10_lose 23 = .ok (.dup, 1) := by decide +kernel
theorem dX10_lose_24 : decode cX10_lose 24 = .ok (.ldc 154, 2) := by decide +kernel
theorem dX10_lose_26 : decode cX10_lose 26 = .ok (.invokespecial 54, 3) := by decide +kernel
theorem dX10_lose_29 : decode cX10_lose 29 = .ok (.athrow, 1) := by decide +kernel
theorem dX10_lose_30 : decode cX10_lose 30 = .ok (.aload_n 0, 1) := by decide +kernel
theorem dX10_lose_31 : decode cX10_lose 31 = .ok (.invokevirtual 44, 3) := by decide +kernel
theorem dX10_lose_34 : decode cX10_lose 34 = .ok (.aload_n 0, 1) := by decide +kernel
theorem dX10_lose_35 : decode cX10_lose 35 = .ok (.getfield 10, 3) := by decide +kernel
theorem dX10_lose_38 : decode cX10_lose 38 = .ok (.getfield 106, 3) := by decide +kernel
theorem dX10_lose_41 : decode cX10_lose 41 = .ok (.getfield 139, 3) := by decide +kernel
theorem dX10_lose_44 : decode cX10_lose 44 = .ok (.iload_n 1, 1) := by decide +kernel
theorem dX10_lose_45 : decode cX10_lose 45 = .ok (.aaload, 1) := by decide +kernel
theorem dX10_lose_46 : decode cX10_lose 46 = .ok (.iconst 1, 1) := by decide +kernel
theorem dX10_lose_47 : decode cX10_lose 47 = .ok (.putfield 159, 3) := by decide +kernel
theorem dX10_lose_50 : decode cX10_lose 50 = .ok (.aload_n 0, 1) := by decide +kernel
theorem dX10_lose_51 : decode cX10_lose 51 = .ok (.getfield 10, 3) := by decide +kernel
theorem dX10_lose_54 : decode cX10_lose 54 = .ok (.getfield 106, 3) := by decide +kernel
theorem dX10_lose_57 : decode cX10_lose 57 = .ok (.invokevirtual 163, 3) := by decide +kernel
theorem dX10_lose_60 : decode cX10_lose 60 = .ok (.ireturn, 1) := by decide +kernel
theorem dX10_receive_0 : decode cX10_receive 0 = .ok (.iload_n 1, 1) := by decide +kernel
theorem dX10_receive_1 : decode cX10_receive 1 = .ok (.iconst 1, 1) := by decide +kernel
theorem dX10_receive_2 : decode cX10_receive 2 = .ok (.bipush 60, 2) := by decide +kernel
theorem dX10_receive_4 : decode cX10_receive 4 = .ok (.invokestatic 24, 3) := by decide +kernel
theorem dX10_receive_7 : decode cX10_receive 7 = .ok (.ifCond .eq 13, 3) := by decide +kernel
theorem dX10_receive_10 : decode cX10_receive 10 = .ok (.new 28, 3) := by decide +kernel
theorem dX10_receive_13 : decode cX10_receive 13 = .ok (.dup, 1) := by decide +kernel
theorem dX10_receive_14 : decode cX10_receive 14 = .ok (.ldc 166, 2) := by decide +kernel
theorem dX10_receive_16 : decode cX10_receive 16 = .ok (.invokespecial 32, 3) := by decide +kernel
theorem dX10_receive_19 : decode cX10_receive 19 = .ok (.athrow, 1) := by decide +kernel
theorem dX10_receive_20 : decode cX10_receive 20 = .ok (.iload_n 1, 1) := by decide +kernel
theorem dX10_receive_21 : decode cX10_receive 21 = .ok (.aload_n 0, 1) := by decide +kernel
theorem dX10_receive_22 : decode cX10_receive 22 = .ok (.getfield 10, 3) := by decide +kernel
theorem dX10_receive_25 : decode cX10_receive 25 = .ok (.getfield 106, 3) := by decide +kernel
theorem dX10_receive_28 : decode cX10_receive 28 = .ok (.getfield 110, 3) := by decide +kernel
theorem dX10_receive_31 : decode cX10_receive 31 = .ok (.if_icmp .le 13, 3) := by decide +kernel
theorem dX10_receive_34 : decode cX10_receive 34 = .ok (.new 39, 3) := by decide +kernel
theorem dX10_receive_37 : decode cX10_receive 37 = .ok (.dup, 1) := by decide +kernel
theorem dX10_receive_38 : decode cX10_receive 38 = .ok (.ldc 168, 2) := by decide +kernel
theorem dX10_receive_40 : decode cX10_receive 40 = .ok (.invokespecial 43, 3) := by decide +kernel
theorem dX10_receive_43 : decode cX10_receive 43 = .ok (.athrow, 1) := by decide +kernel
theorem dX10_receive_44 : decode cX10_receive 44 = .ok (.aload_n 0, 1) := by decide +kernel
theorem dX10_receive_45 : decode cX10_receive 45 = .ok (.invokevirtual 44, 3) := by decide +kernel
theorem dX10_receive_48 : decode cX10_receive 48 = .ok (.iconst 0, 1) := by decide +kernel
theorem dX10_receive_49 : decode cX10_receive 49 = .ok (.istore_n 2, 1) := by decide +kernel
theorem dX10_receive_50 : decode cX10_receive 50 = .ok (.iconst 0, 1) := by decide +kernel
theorem dX10_receive_51 : decode cX10_receive 51 = .ok (.istore_n 3, 1) := by decide +kernel
theorem dX10_receive_52 : decode cX10_receive 52 = .ok (.iload_n 3, 1) := by decide +kernel
theorem dX10_receive_53 : decode cX10_receive 53 = .ok (.iload_n 1, 1) := by decide +kernel
theorem dX10_receive_54 : decode cX10_receive 54 = .ok (.if_icmp .ge 34, 3) := by decide +kernel
theorem dX10_receive_57 : decode cX10_receive 57 = .ok (.iload_n 2, 1) := by decide +kernel
theorem dX10_receive_58 : decode cX10_receive 58 = .ok (.aload_n 0, 1) := by decide +kernel
theorem dX10_receive_59 : decode cX10_receive 59 = .ok (.getfield 10, 3) := by decide +kernel
theorem dX10_receive_62 : decode cX10_receive 62 = .ok (.getfield 170, 3) := by decide +kernel
theorem dX10_receive_65 : decode cX10_receive 65 = .ok (.aload_n 0, 1) := by decide +kernel
theorem dX10_receive_66 : decode cX10_receive 66 = .ok (.getfield 10, 3) := by decide +kernel
theorem dX10_receive_69 : decode cX10_receive 69 = .ok (.getfield 106, 3) := by decide +kernel
theorem dX10_receive_72 : decode cX10_receive 72 = .ok (.getfield 139, 3) := by decide +kernel
theorem dX10_receive_75 : decode cX10_receive 75 = .ok (.iload_n 3, 1) := by decide +kernel
theorem dX10_receive_76 : decode cX10_receive 76 = .ok (.aaload, 1) := by decide +kernel
theorem dX10_receive_77 : decode cX10_receive 77 = .ok (.invokevirtual 174, 3) := by decide +kernel
theorem dX10_receive_80 : decode cX10_receive 80 = .ok (.iadd, 1) := by decide +kernel
theorem dX10_receive_81 : decode cX10_receive 81 = .ok (.istore_n 2, 1) := by decide +kernel
theorem dX10_receive_82 : decode cX10_receive 82 = .ok (.iinc 3 1, 3) := by decide +kernel
theorem dX10_receive_85 : decode cX10_receive 85 = .ok (.goto (-33), 3) := by decide +kernel
theorem dX10_receive_88 : decode cX10_receive 88 = .ok (.aload_n 0, 1) := by decide +kernel
theorem dX10_receive_89 : decode cX10_receive 89 = .ok (.getfield 10, 3) := by decide +kernel
theorem dX10_receive_92 : decode cX10_receive 92 = .ok (.getfield 106, 3) := by decide +kernel
theorem dX10_receive_95 : decode cX10_receive 95 = .ok (.iload_n 1, 1) := by decide +kernel
theorem dX10_receive_96 : decode cX10_receive 96 = .ok (.invokevirtual 180, 3) := by decide +kernel
theorem dX10_receive_99 : decode cX10_receive 99 = .ok (.iload_n 2, 1) := by decide +kernel
theorem dX10_receive_100 : decode cX10_receive 100 = .ok (.ireturn, 1) := by decide +kernel
theorem dX10_count_0 : decode cX10_count 0 = .ok (.iload_n 1, 1) := by decide +kernel
theorem dX10_count_1 : decode cX10_count 1 = .ok (.iconst 0, 1) := by decide +kernel
theorem dX10_count_2 : decode cX10_count 2 = .ok (.iconst 5, 1) := by decide +kernel
theorem dX10_count_3 : decode cX10_count 3 = .ok (.invokestatic 24, 3) := by decide +kernel
theorem dX10_count_6 : decode cX10_count 6 = .ok (.ifCond .eq 13, 3) := by decide +kernel
theorem dX10_count_9 : decode cX10_count 9 = .ok (.new 28, 3) := by decide +kernel
theorem dX10_count_12 : decode cX10_count 12 = .ok (.dup, 1) := by decide +kernel
theorem dX10_count_13 : decode cX10_count 13 = .ok (.ldc 99, 2) := by decide +kernel
theorem dX10_count_15 : decode cX10_count 15 = .ok (.invokespecial 32, 3) := by decide +kernel
theorem dX10_count_18 : decode cX10_count 18 = .ok (.athrow, 1) := by decide +kernel
theorem dX10_count_19 : decode cX10_count 19 = .ok (.aload_n 0, 1) := by decide +kernel
theorem dX10_count_20 : decode cX10_count 20 = .ok (.getfield 10, 3) := by decide +kernel
theorem dX10_count_23 : decode cX10_count 23 = .ok (.getfield 170, 3) := by decide +kernel
theorem dX10_count_26 : decode cX10_count 26 = .ok (.getfield 184, 3) := by decide +kernel
theorem dX10_count_29 : decode cX10_count 29 = .ok (.iload_n 1, 1) := by decide +kernel
theorem dX10_count_30 : decode cX10_count 30 = .ok (.iaload, 1) := by decide +kernel
theorem dX10_count_31 : decode cX10_count 31 = .ok (.ireturn, 1) := by decide +kernel
theorem dX10_received_0 : decode cX10_received 0 = .ok (.iload_n 1, 1) := by decide +kernel
theorem dX10_received_1 : decode cX10_received 1 = .ok (.iconst 0, 1) := by decide +kernel
theorem dX10_received_2 : decode cX10_received 2 = .ok (.iconst 3, 1) := by decide +kernel
theorem dX10_received_3 : decode cX10_received 3 = .ok (.invokestatic 24, 3) := by decide +kernel
theorem dX10_received_6 : decode cX10_received 6 = .ok (.ifCond .eq 13, 3) := by decide +kernel
theorem dX10_received_9 : decode cX10_received 9 = .ok (.new 50, 3) := by decide +kernel
theorem dX10_received_12 : decode cX10_received 12 = .ok (.dup, 1) := by decide +kernel
theorem dX10_received_13 : decode cX10_received 13 = .ok (.ldc 52, 2) := by decide +kernel
theorem dX10_received_15 : decode cX10_received 15 = .ok (.invokespecial 54, 3) := by decide +kernel
theorem dX10_received_18 : decode cX10_received 18 = .ok (.athrow, 1) := by decide +kernel
theorem dX10_received_19 : decode cX10_received 19 = .ok (.aload_n 0, 1) := by decide +kernel
theorem dX10_received_20 : decode cX10_received 20 = .ok (.getfield 10, 3) := by decide +kernel
theorem dX10_received_23 : decode cX10_received 23 = .ok (.getfield 170, 3) := by decide +kernel
theorem dX10_received_26 : decode cX10_received 26 = .ok (.getfield 187, 3) := by decide +kernel
theorem dX10_received_29 : decode cX10_received 29 = .ok (.iload_n 1, 1) := by decide +kernel
theorem dX10_received_30 : decode cX10_received 30 = .ok (.aaload, 1) := by decide +kernel
theorem dX10_received_31 : decode cX10_received 31 = .ok (.astore_n 3, 1) := by decide +kernel
theorem dX10_received_32 : decode cX10_received 32 = .ok (.iload_n 2, 1) := by decide +kernel
theorem dX10_received_33 : decode cX10_received 33 = .ok (.tableswitch 59 0 3 #[31, 36, 41, 46], 31) := by decide +kernel
theorem dX10_received_64 : decode cX10_received 64 = .ok (.aload_n 3, 1) := by decide +kernel
theorem dX10_received_65 : decode cX10_received 65 = .ok (.getfield 191, 3) := by decide +kernel
theorem dX10_received_68 : decode cX10_received 68 = .ok (.ireturn, 1) := by decide +kernel
theorem dX10_received_69 : decode cX10_received 69 = .ok (.aload_n 3, 1) := by decide +kernel
theorem dX10_received_70 : decode cX10_received 70 = .ok (.getfield 194, 3) := by decide +kernel
theorem dX10_received_73 : decode cX10_received 73 = .ok (.ireturn, 1) := by decide +kernel
theorem dX10_received_74 : decode cX10_received 74 = .ok (.aload_n 3, 1) := by decide +kernel
theorem dX10_received_75 : decode cX10_received 75 = .ok (.getfield 197, 3) := by decide +kernel
theorem dX10_received_78 : decode cX10_received 78 = .ok (.ireturn, 1) := by decide +kernel
theorem dX10_received_79 : decode cX10_received 79 = .ok (.aload_n 3, 1) := by decide +kernel
theorem dX10_received_80 : decode cX10_received 80 = .ok (.getfield 200, 3) := by decide +kernel
theorem dX10_received_83 : decode cX10_received 83 = .ok (.ifCond .eq 7, 3) := by decide +kernel
theorem dX10_received_86 : decode cX10_received 86 = .ok (.iconst 1, 1) := by decide +kernel
theorem dX10_received_87 : decode cX10_received 87 = .ok (.goto 4, 3) := by decide +kernel
theorem dX10_received_90 : decode cX10_received 90 = .ok (.iconst 0, 1) := by decide +kernel
theorem dX10_received_91 : decode cX10_received 91 = .ok (.ireturn, 1) := by decide +kernel
theorem dX10_received_92 : decode cX10_received 92 = .ok (.new 28, 3) := by decide +kernel
theorem dX10_received_95 : decode cX10_received 95 = .ok (.dup, 1) := by decide +kernel
theorem dX10_received_96 : decode cX10_received 96 = .ok (.ldc 99, 2) := by decide +kernel
theorem dX10_received_98 : decode cX10_received 98 = .ok (.invokespecial 32, 3) := by decide +kernel
theorem dX10_received_101 : decode cX10_received 101 = .ok (.athrow, 1) := by decide +kernel
theorem dX10_application_0 : decode cX10_application 0 = .ok (.iload_n 1, 1) := by decide +kernel
theorem dX10_application_1 : decode cX10_application 1 = .ok (.iconst 0, 1) := by decide +kernel
theorem dX10_application_2 : decode cX10_application 2 = .ok (.bipush 14, 2) := by decide +kernel
theorem dX10_application_4 : decode cX10_application 4 = .ok (.invokestatic 24, 3) := by decide +kernel
theorem dX10_application_7 : decode cX10_application 7 = .ok (.ifCond .eq 13, 3) := by decide +kernel
theorem dX10_application_10 : decode cX10_application 10 = .ok (.new 50, 3) := by decide +kernel
theorem dX10_application_13 : decode cX10_application 13 = .ok (.dup, 1) := by decide +kernel
theorem dX10_application_14 : decode cX10_application 14 = .ok (.ldc 203, 2) := by decide +kernel
theorem dX10_application_16 : decode cX10_application 16 = .ok (.invokespecial 54, 3) := by decide +kernel
theorem dX10_application_19 : decode cX10_application 19 = .ok (.athrow, 1) := by decide +kernel
theorem dX10_application_20 : decode cX10_application 20 = .ok (.iload_n 2, 1) := by decide +kernel
theorem dX10_application_21 : decode cX10_application 21 = .ok (.tableswitch 66 0 2 #[27, 40, 53], 27) := by decide +kernel
theorem dX10_application_48 : decode cX10_application 48 = .ok (.aload_n 0, 1) := by decide +kernel
theorem dX10_application_49 : decode cX10_application 49 = .ok (.getfield 10, 3) := by decide +kernel
theorem dX10_application_52 : decode cX10_application 52 = .ok (.getfield 170, 3) := by decide +kernel
theorem dX10_application_55 : decode cX10_application 55 = .ok (.getfield 205, 3) := by decide +kernel
theorem dX10_application_58 : decode cX10_application 58 = .ok (.iload_n 1, 1) := by decide +kernel
theorem dX10_application_59 : decode cX10_application 59 = .ok (.iaload, 1) := by decide +kernel
theorem dX10_application_60 : decode cX10_application 60 = .ok (.ireturn, 1) := by decide +kernel
theorem dX10_application_61 : decode cX10_application 61 = .ok (.aload_n 0, 1) := by decide +kernel
theorem dX10_application_62 : decode cX10_application 62 = .ok (.getfield 10, 3) := by decide +kernel
theorem dX10_application_65 : decode cX10_application 65 = .ok (.getfield 170, 3) := by decide +kernel
theorem dX10_application_68 : decode cX10_application 68 = .ok (.getfield 208, 3) := by decide +kernel
theorem dX10_application_71 : decode cX10_application 71 = .ok (.iload_n 1, 1) := by decide +kernel
theorem dX10_application_72 : decode cX10_application 72 = .ok (.iaload, 1) := by decide +kernel
theorem dX10_application_73 : decode cX10_application 73 = .ok (.ireturn, 1) := by decide +kernel
theorem dX10_application_74 : decode cX10_application 74 = .ok (.aload_n 0, 1) := by decide +kernel
theorem dX10_application_75 : decode cX10_application 75 = .ok (.getfield 10, 3) := by decide +kernel
theorem dX10_application_78 : decode cX10_application 78 = .ok (.getfield 170, 3) := by decide +kernel
theorem dX10_application_81 : decode cX10_application 81 = .ok (.getfield 211, 3) := by decide +kernel
theorem dX10_application_84 : decode cX10_application 84 = .ok (.iload_n 1, 1) := by decide +kernel
theorem dX10_application_85 : decode cX10_application 85 = .ok (.iaload, 1) := by decide +kernel
theorem dX10_application_86 : decode cX10_application 86 = .ok (.ireturn, 1) := by decide +kernel
theorem dX10_application_87 : decode cX10_application 87 = .ok (.new 28, 3) := by decide +kernel
theorem dX10_application_90 : decode cX10_application 90 = .ok (.dup, 1) := by decide +kernel
theorem dX10_application_91 : decode cX10_application 91 = .ok (.ldc 99, 2) := by decide +kernel
theorem dX10_application_93 : decode cX10_application 93 = .ok (.invokespecial 32, 3) := by decide +kernel
theorem dX10_application_96 : decode cX10_application 96 = .ok (.athrow, 1) := by decide +kernel
theorem dX10_packets_0 : decode cX10_packets 0 = .ok (.aload_n 0, 1) := by decide +kernel
theorem dX10_packets_1 : decode cX10_packets 1 = .ok (.getfield 10, 3) := by decide +kernel
theorem dX10_packets_4 : decode cX10_packets 4 = .ok (.getfield 170, 3) := by decide +kernel
theorem dX10_packets_7 : decode cX10_packets 7 = .ok (.getfield 214, 3) := by decide +kernel
theorem dX10_packets_10 : decode cX10_packets 10 = .ok (.getfield 218, 3) := by decide +kernel
theorem dX10_packets_13 : decode cX10_packets 13 = .ok (.ireturn, 1) := by decide +kernel
theorem dX10_packet_0 : decode cX10_packet 0 = .ok (.iload_n 1, 1) := by decide +kernel
theorem dX10_packet_1 : decode cX10_packet 1 = .ok (.iconst 0, 1) := by decide +kernel
theorem dX10_packet_2 : decode cX10_packet 2 = .ok (.aload_n 0, 1) := by decide +kernel
theorem dX10_packet_3 : decode cX10_packet 3 = .ok (.getfield 10, 3) := by decide +kernel
theorem dX10_packet_6 : decode cX10_packet 6 = .ok (.getfield 170, 3) := by decide +kernel
theorem dX10_packet_9 : decode cX10_packet 9 = .ok (.getfield 214, 3) := by decide +kernel
theorem dX10_packet_12 : decode cX10_packet 12 = .ok (.getfield 218, 3) := by decide +kernel
theorem dX10_packet_15 : decode cX10_packet 15 = .ok (.iconst 1, 1) := by decide +kernel
theorem dX10_packet_16 : decode cX10_packet 16 = .ok (.isub, 1) := by decide +kernel
theorem dX10_packet_17 : decode cX10_packet 17 = .ok (.invokestatic 24, 3) := by decide +kernel
theorem dX10_packet_20 : decode cX10_packet 20 = .ok (.ifCond .eq 13, 3) := by decide +kernel
theorem dX10_packet_23 : decode cX10_packet 23 = .ok (.new 50, 3) := by decide +kernel
theorem dX10_packet_26 : decode cX10_packet 26 = .ok (.dup, 1) := by decide +kernel
theorem dX10_packet_27 : decode cX10_packet 27 = .ok (.ldc 221, 2) := by decide +kernel
theorem dX10_packet_29 : decode cX10_packet 29 = .ok (.invokespecial 54, 3) := by decide +kernel
theorem dX10_packet_32 : decode cX10_packet 32 = .ok (.athrow, 1) := by decide +kernel
theorem dX10_packet_33 : decode cX10_packet 33 = .ok (.aload_n 0, 1) := by decide +kernel
theorem dX10_packet_34 : decode cX10_packet 34 = .ok (.getfield 10, 3) := by decide +kernel
theorem dX10_packet_37 : decode cX10_packet 37 = .ok (.getfield 170, 3) := by decide +kernel
theorem dX10_packet_40 : decode cX10_packet 40 = .ok (.getfield 214, 3) := by decide +kernel
theorem dX10_packet_43 : decode cX10_packet 43 = .ok (.getfield 223, 3) := by decide +kernel
theorem dX10_packet_46 : decode cX10_packet 46 = .ok (.iload_n 1, 1) := by decide +kernel
theorem dX10_packet_47 : decode cX10_packet 47 = .ok (.aaload, 1) := by decide +kernel
theorem dX10_packet_48 : decode cX10_packet 48 = .ok (.astore_n 3, 1) := by decide +kernel
theorem dX10_packet_49 : decode cX10_packet 49 = .ok (.iload_n 2, 1) := by decide +kernel
theorem dX10_packet_50 : decode cX10_packet 50 = .ok (.tableswitch 59 0 4 #[34, 39, 44, 49, 54], 34) := by decide +kernel
theorem dX10_packet_84 : decode cX10_packet 84 = .ok (.aload_n 3, 1) := by decide +kernel
theorem dX10_packet_85 : decode cX10_packet 85 = .ok (.getfield 227, 3) := by decide +kernel
theorem dX10_packet_88 : decode cX10_packet 88 = .ok (.ireturn, 1) := by decide +kernel
theorem dX10_packet_89 : decode cX10_packet 89 = .ok (.aload_n 3, 1) := by decide +kernel
theorem dX10_packet_90 : decode cX10_packet 90 = .ok (.getfield 232, 3) := by decide +kernel
theorem dX10_packet_93 : decode cX10_packet 93 = .ok (.ireturn, 1) := by decide +kernel
theorem dX10_packet_94 : decode cX10_packet 94 = .ok (.aload_n 3, 1) := by decide +kernel
theorem dX10_packet_95 : decode cX10_packet 95 = .ok (.getfield 235, 3) := by decide +kernel
theorem dX10_packet_98 : decode cX10_packet 98 = .ok (.ireturn, 1) := by decide +kernel
theorem dX10_packet_99 : decode cX10_packet 99 = .ok (.aload_n 3, 1) := by decide +kernel
theorem dX10_packet_100 : decode cX10_packet 100 = .ok (.getfield 238, 3) := by decide +kernel
theorem dX10_packet_103 : decode cX10_packet 103 = .ok (.ireturn, 1) := by decide +kernel
theorem dX10_packet_104 : decode cX10_packet 104 = .ok (.aload_n 3, 1) := by decide +kernel
theorem dX10_packet_105 : decode cX10_packet 105 = .ok (.invokevirtual 241, 3) := by decide +kernel
theorem dX10_packet_108 : decode cX10_packet 108 = .ok (.ireturn, 1) := by decide +kernel
theorem dX10_packet_109 : decode cX10_packet 109 = .ok (.new 28, 3) := by decide +kernel
theorem dX10_packet_112 : decode cX10_packet 112 = .ok (.dup, 1) := by decide +kernel
theorem dX10_packet_113 : decode cX10_packet 113 = .ok (.ldc 99, 2) := by decide +kernel
theorem dX10_packet_115 : decode cX10_packet 115 = .ok (.invokespecial 32, 3) := by decide +kernel
theorem dX10_packet_118 : decode cX10_packet 118 = .ok (.athrow, 1) := by decide +kernel
theorem dX10_packetByte_0 : decode cX10_packetByte 0 = .ok (.iload_n 1, 1) := by decide +kernel
theorem dX10_packetByte_1 : decode cX10_packetByte 1 = .ok (.iconst 0, 1) := by decide +kernel
theorem dX10_packetByte_2 : decode cX10_packetByte 2 = .ok (.aload_n 0, 1) := by decide +kernel
theorem dX10_packetByte_3 : decode cX10_packetByte 3 = .ok (.getfield 10, 3) := by decide +kernel
theorem dX10_packetByte_6 : decode cX10_packetByte 6 = .ok (.getfield 170, 3) := by decide +kernel
theorem dX10_packetByte_9 : decode cX10_packetByte 9 = .ok (.getfield 214, 3) := by decide +kernel
theorem dX10_packetByte_12 : decode cX10_packetByte 12 = .ok (.getfield 218, 3) := by decide +kernel
theorem dX10_packetByte_15 : decode cX10_packetByte 15 = .ok (.iconst 1, 1) := by decide +kernel
theorem dX10_packetByte_16 : decode cX10_packetByte 16 = .ok (.isub, 1) := by decide +kernel
theorem dX10_packetByte_17 : decode cX10_packetByte 17 = .ok (.invokestatic 24, 3) := by decide +kernel
theorem dX10_packetByte_20 : decode cX10_packetByte 20 = .ok (.ifCond .ne 31, 3) := by decide +kernel
theorem dX10_packetByte_23 : decode cX10_packetByte 23 = .ok (.iload_n 2, 1) := by decide +kernel
theorem dX10_packetByte_24 : decode cX10_packetByte 24 = .ok (.iconst 0, 1) := by decide +kernel
theorem dX10_packetByte_25 : decode cX10_packetByte 25 = .ok (.aload_n 0, 1) := by decide +kernel
theorem dX10_packetByte_26 : decode cX10_packetByte 26 = .ok (.getfield 10, 3) := by decide +kernel
theorem dX10_packetByte_29 : decode cX10_packetByte 29 = .ok (.getfield 170, 3) := by decide +kernel
theorem dX10_packetByte_32 : decode cX10_packetByte 32 = .ok (.getfield 214, 3) := by decide +kernel
theorem dX10_packetByte_35 : decode cX10_packetByte 35 = .ok (.getfield 223, 3) := by decide +kernel
theorem dX10_packetByte_38 : decode cX10_packetByte 38 = .ok (.iload_n 1, 1) := by decide +kernel
theorem dX10_packetByte_39 : decode cX10_packetByte 39 = .ok (.aaload, 1) := by decide +kernel
theorem dX10_packetByte_40 : decode cX10_packetByte 40 = .ok (.getfield 238, 3) := by decide +kernel
theorem dX10_packetByte_43 : decode cX10_packetByte 43 = .ok (.iconst 1, 1) := by decide +kernel
theorem dX10_packetByte_44 : decode cX10_packetByte 44 = .ok (.isub, 1) := by decide +kernel
theorem dX10_packetByte_45 : decode cX10_packetByte 45 = .ok (.invokestatic 24, 3) := by decide +kernel
theorem dX10_packetByte_48 : decode cX10_packetByte 48 = .ok (.ifCond .eq 13, 3) := by decide +kernel
theorem dX10_packetByte_51 : decode cX10_packetByte 51 = .ok (.new 50, 3) := by decide +kernel
theorem dX10_packetByte_54 : decode cX10_packetByte 54 = .ok (.dup, 1) := by decide +kernel
theorem dX10_packetByte_55 : decode cX10_packetByte 55 = .ok (.ldc 244, 2) := by decide +kernel
theorem dX10_packetByte_57 : decode cX10_packetByte 57 = .ok (.invokespecial 54, 3) := by decide +kernel
theorem dX10_packetByte_60 : decode cX10_packetByte 60 = .ok (.athrow, 1) := by decide +kernel
theorem dX10_packetByte_61 : decode cX10_packetByte 61 = .ok (.aload_n 0, 1) := by decide +kernel
theorem dX10_packetByte_62 : decode cX10_packetByte 62 = .ok (.getfield 10, 3) := by decide +kernel
theorem dX10_packetByte_65 : decode cX10_packetByte 65 = .ok (.getfield 170, 3) := by decide +kernel
theorem dX10_packetByte_68 : decode cX10_packetByte 68 = .ok (.getfield 214, 3) := by decide +kernel
theorem dX10_packetByte_71 : decode cX10_packetByte 71 = .ok (.getfield 223, 3) := by decide +kernel
theorem dX10_packetByte_74 : decode cX10_packetByte 74 = .ok (.iload_n 1, 1) := by decide +kernel
theorem dX10_packetByte_75 : decode cX10_packetByte 75 = .ok (.aaload, 1) := by decide +kernel
theorem dX10_packetByte_76 : decode cX10_packetByte 76 = .ok (.getfield 246, 3) := by decide +kernel
theorem dX10_packetByte_79 : decode cX10_packetByte 79 = .ok (.iload_n 2, 1) := by decide +kernel
theorem dX10_packetByte_80 : decode cX10_packetByte 80 = .ok (.iaload, 1) := by decide +kernel
theorem dX10_packetByte_81 : decode cX10_packetByte 81 = .ok (.ireturn, 1) := by decide +kernel
theorem dX10_clock_0 : decode cX10_clock 0 = .ok (.aload_n 0, 1) := by decide +kernel
theorem dX10_clock_1 : decode cX10_clock 1 = .ok (.getfield 10, 3) := by decide +kernel
theorem dX10_clock_4 : decode cX10_clock 4 = .ok (.invokevirtual 249, 3) := by decide +kernel
theorem dX10_clock_7 : decode cX10_clock 7 = .ok (.lreturn, 1) := by decide +kernel
theorem dX10_timePairs_0 : decode cX10_timePairs 0 = .ok (.aload_n 0, 1) := by decide +kernel
theorem dX10_timePairs_1 : decode cX10_timePairs 1 = .ok (.getfield 10, 3) := by decide +kernel
theorem dX10_timePairs_4 : decode cX10_timePairs 4 = .ok (.getfield 170, 3) := by decide +kernel
theorem dX10_timePairs_7 : decode cX10_timePairs 7 = .ok (.getfield 253, 3) := by decide +kernel
theorem dX10_timePairs_10 : decode cX10_timePairs 10 = .ok (.getfield 257, 3) := by decide +kernel
theorem dX10_timePairs_13 : decode cX10_timePairs 13 = .ok (.ireturn, 1) := by decide +kernel
theorem dX10_groundTime_0 : decode cX10_groundTime 0 = .ok (.lload_n 1, 1) := by decide +kernel
theorem dX10_groundTime_1 : decode cX10_groundTime 1 = .ok (.ldc2_w 260, 3) := by decide +kernel
theorem dX10_groundTime_4 : decode cX10_groundTime 4 = .ok (.lcmp, 1) := by decide +kernel
theorem dX10_groundTime_5 : decode cX10_groundTime 5 = .ok (.ifCond .lt 11, 3) := by decide +kernel
theorem dX10_groundTime_8 : decode cX10_groundTime 8 = .ok (.lload_n 1, 1) := by decide +kernel
theorem dX10_groundTime_9 : decode cX10_groundTime 9 = .ok (.ldc2_w 262, 3) := by decide +kernel
theorem dX10_groundTime_12 : decode cX10_groundTime 12 = .ok (.lcmp, 1) := by decide +kernel
theorem dX10_groundTime_13 : decode cX10_groundTime 13 = .ok (.ifCond .le 14, 3) := by decide +kernel
theorem dX10_groundTime_16 : decode cX10_groundTime 16 = .ok (.new 28, 3) := by decide +kernel
theorem dX10_groundTime_19 : decode cX10_groundTime 19 = .ok (.dup, 1) := by decide +kernel
theorem dX10_groundTime_20 : decode cX10_groundTime 20 = .ok (.ldc_w 264, 3) := by decide +kernel
theorem dX10_groundTime_23 : decode cX10_groundTime 23 = .ok (.invokespecial 32, 3) := by decide +kernel
theorem dX10_groundTime_26 : decode cX10_groundTime 26 = .ok (.athrow, 1) := by decide +kernel
theorem dX10_groundTime_27 : decode cX10_groundTime 27 = .ok (.aload_n 0, 1) := by decide +kernel
theorem dX10_groundTime_28 : decode cX10_groundTime 28 = .ok (.getfield 10, 3) := by decide +kernel
theorem dX10_groundTime_31 : decode cX10_groundTime 31 = .ok (.getfield 170, 3) := by decide +kernel
theorem dX10_groundTime_34 : decode cX10_groundTime 34 = .ok (.getfield 253, 3) := by decide +kernel
theorem dX10_groundTime_37 : decode cX10_groundTime 37 = .ok (.astore_n 3, 1) := by decide +kernel
theorem dX10_groundTime_38 : decode cX10_groundTime 38 = .ok (.aload_n 3, 1) := by decide +kernel
theorem dX10_groundTime_39 : decode cX10_groundTime 39 = .ok (.getfield 266, 3) := by decide +kernel
theorem dX10_groundTime_42 : decode cX10_groundTime 42 = .ok (.iconst 1, 1) := by decide +kernel
theorem dX10_groundTime_43 : decode cX10_groundTime 43 = .ok (.laload, 1) := by decide +kernel
theorem dX10_groundTime_44 : decode cX10_groundTime 44 = .ok (.aload_n 3, 1) := by decide +kernel
theorem dX10_groundTime_45 : decode cX10_groundTime 45 = .ok (.getfield 266, 3) := by decide +kernel
theorem dX10_groundTime_48 : decode cX10_groundTime 48 = .ok (.iconst 0, 1) := by decide +kernel
theorem dX10_groundTime_49 : decode cX10_groundTime 49 = .ok (.laload, 1) := by decide +kernel
theorem dX10_groundTime_50 : decode cX10_groundTime 50 = .ok (.lsub, 1) := by decide +kernel
theorem dX10_groundTime_51 : decode cX10_groundTime 51 = .ok (.lstore 4, 2) := by decide +kernel
theorem dX10_groundTime_53 : decode cX10_groundTime 53 = .ok (.aload_n 3, 1) := by decide +kernel
theorem dX10_groundTime_54 : decode cX10_groundTime 54 = .ok (.getfield 257, 3) := by decide +kernel
theorem dX10_groundTime_57 : decode cX10_groundTime 57 = .ok (.iconst 2, 1) := by decide +kernel
theorem dX10_groundTime_58 : decode cX10_groundTime 58 = .ok (.if_icmp .lt 10, 3) := by decide +kernel
theorem dX10_groundTime_61 : decode cX10_groundTime 61 = .ok (.lload 4, 2) := by decide +kernel
theorem dX10_groundTime_63 : decode cX10_groundTime 63 = .ok (.lconst 0, 1) := by decide +kernel
theorem dX10_groundTime_64 : decode cX10_groundTime 64 = .ok (.lcmp, 1) := by decide +kernel
theorem dX10_groundTime_65 : decode cX10_groundTime 65 = .ok (.ifCond .ne 14, 3) := by decide +kernel
theorem dX10_groundTime_68 : decode cX10_groundTime 68 = .ok (.new 39, 3) := by decide +kernel
theorem dX10_groundTime_71 : decode cX10_groundTime 71 = .ok (.dup, 1) := by decide +kernel
theorem dX10_groundTime_72 : decode cX10_groundTime 72 = .ok (.ldc_w 270, 3) := by decide +kernel
theorem dX10_groundTime_75 : decode cX10_groundTime 75 = .ok (.invokespecial 43, 3) := by decide +kernel
theorem dX10_groundTime_78 : decode cX10_groundTime 78 = .ok (.athrow, 1) := by decide +kernel
theorem dX10_groundTime_79 : decode cX10_groundTime 79 = .ok (.aload_n 3, 1) := by decide +kernel
theorem dX10_groundTime_80 : decode cX10_groundTime 80 = .ok (.getfield 272, 3) := by decide +kernel
theorem dX10_groundTime_83 : decode cX10_groundTime 83 = .ok (.iconst 1, 1) := by decide +kernel
theorem dX10_groundTime_84 : decode cX10_groundTime 84 = .ok (.laload, 1) := by decide +kernel
theorem dX10_groundTime_85 : decode cX10_groundTime 85 = .ok (.aload_n 3, 1) := by decide +kernel
theorem dX10_groundTime_86 : decode cX10_groundTime 86 = .ok (.getfield 272, 3) := by decide +kernel
theorem dX10_groundTime_89 : decode cX10_groundTime 89 = .ok (.iconst 0, 1) := by decide +kernel
theorem dX10_groundTime_90 : decode cX10_groundTime 90 = .ok (.laload, 1) := by decide +kernel
theorem dX10_groundTime_91 : decode cX10_groundTime 91 = .ok (.lsub, 1) := by decide +kernel
theorem dX10_groundTime_92 : decode cX10_groundTime 92 = .ok (.lstore 6, 2) := by decide +kernel
theorem dX10_groundTime_94 : decode cX10_groundTime 94 = .ok (.lload_n 1, 1) := by decide +kernel
theorem dX10_groundTime_95 : decode cX10_groundTime 95 = .ok (.aload_n 3, 1) := by decide +kernel
theorem dX10_groundTime_96 : decode cX10_groundTime 96 = .ok (.getfield 266, 3) := by decide +kernel
theorem dX10_groundTime_99 : decode cX10_groundTime 99 = .ok (.iconst 1, 1) := by decide +kernel
theorem dX10_groundTime_100 : decode cX10_groundTime 100 = .ok (.laload, 1) := by decide +kernel
theorem dX10_groundTime_101 : decode cX10_groundTime 101 = .ok (.lsub, 1) := by decide +kernel
theorem dX10_groundTime_102 : decode cX10_groundTime 102 = .ok (.lload 6, 2) := by decide +kernel
theorem dX10_groundTime_104 : decode cX10_groundTime 104 = .ok (.lmul, 1) := by decide +kernel
theorem dX10_groundTime_105 : decode cX10_groundTime 105 = .ok (.lstore 8, 2) := by decide +kernel
theorem dX10_groundTime_107 : decode cX10_groundTime 107 = .ok (.aload_n 3, 1) := by decide +kernel
theorem dX10_groundTime_108 : decode cX10_groundTime 108 = .ok (.getfield 272, 3) := by decide +kernel
theorem dX10_groundTime_111 : decode cX10_groundTime 111 = .ok (.iconst 1, 1) := by decide +kernel
theorem dX10_groundTime_112 : decode cX10_groundTime 112 = .ok (.laload, 1) := by decide +kernel
theorem dX10_groundTime_113 : decode cX10_groundTime 113 = .ok (.lload 8, 2) := by decide +kernel
theorem dX10_groundTime_115 : decode cX10_groundTime 115 = .ok (.lload 4, 2) := by decide +kernel
theorem dX10_groundTime_117 : decode cX10_groundTime 117 = .ok (.invokestatic 275, 3) := by decide +kernel
theorem dX10_groundTime_120 : decode cX10_groundTime 120 = .ok (.ladd, 1) := by decide +kernel
theorem dX10_groundTime_121 : decode cX10_groundTime 121 = .ok (.lreturn, 1) := by decide +kernel
theorem dX10_undo_0 : decode cX10_undo 0 = .ok (.aload_n 0, 1) := by decide +kernel
theorem dX10_undo_1 : decode cX10_undo 1 = .ok (.getfield 20, 3) := by decide +kernel
theorem dX10_undo_4 : decode cX10_undo 4 = .ok (.ifCond .gt 14, 3) := by decide +kernel
theorem dX10_undo_7 : decode cX10_undo 7 = .ok (.new 39, 3) := by decide +kernel
theorem dX10_undo_10 : decode cX10_undo 10 = .ok (.dup, 1) := by decide +kernel
theorem dX10_undo_11 : decode cX10_undo 11 = .ok (.ldc_w 281, 3) := by decide +kernel
theorem dX10_undo_14 : decode cX10_undo 14 = .ok (.invokespecial 43, 3) := by decide +kernel
theorem dX10_undo_17 : decode cX10_undo 17 = .ok (.athrow, 1) := by decide +kernel
theorem dX10_undo_18 : decode cX10_undo 18 = .ok (.aload_n 0, 1) := by decide +kernel
theorem dX10_undo_19 : decode cX10_undo 19 = .ok (.dup, 1) := by decide +kernel
theorem dX10_undo_20 : decode cX10_undo 20 = .ok (.getfield 20, 3) := by decide +kernel
theorem dX10_undo_23 : decode cX10_undo 23 = .ok (.iconst 1, 1) := by decide +kernel
theorem dX10_undo_24 : decode cX10_undo 24 = .ok (.isub, 1) := by decide +kernel
theorem dX10_undo_25 : decode cX10_undo 25 = .ok (.putfield 20, 3) := by decide +kernel
theorem dX10_undo_28 : decode cX10_undo 28 = .ok (.aload_n 0, 1) := by decide +kernel
theorem dX10_undo_29 : decode cX10_undo 29 = .ok (.getfield 10, 3) := by decide +kernel
theorem dX10_undo_32 : decode cX10_undo 32 = .ok (.astore_n 1, 1) := by decide +kernel
theorem dX10_undo_33 : decode cX10_undo 33 = .ok (.aload_n 0, 1) := by decide +kernel
theorem dX10_undo_34 : decode cX10_undo 34 = .ok (.aload_n 0, 1) := by decide +kernel
theorem dX10_undo_35 : decode cX10_undo 35 = .ok (.getfield 16, 3) := by decide +kernel
theorem dX10_undo_38 : decode cX10_undo 38 = .ok (.aload_n 0, 1) := by decide +kernel
theorem dX10_undo_39 : decode cX10_undo 39 = .ok (.getfield 20, 3) := by decide +kernel
theorem dX10_undo_42 : decode cX10_undo 42 = .ok (.aaload, 1) := by decide +kernel
theorem dX10_undo_43 : decode cX10_undo 43 = .ok (.putfield 10, 3) := by decide +kernel
theorem dX10_undo_46 : decode cX10_undo 46 = .ok (.aload_n 0, 1) := by decide +kernel
theorem dX10_undo_47 : decode cX10_undo 47 = .ok (.getfield 16, 3) := by decide +kernel
theorem dX10_undo_50 : decode cX10_undo 50 = .ok (.aload_n 0, 1) := by decide +kernel
theorem dX10_undo_51 : decode cX10_undo 51 = .ok (.getfield 20, 3) := by decide +kernel
theorem dX10_undo_54 : decode cX10_undo 54 = .ok (.aload_n 1, 1) := by decide +kernel
theorem dX10_undo_55 : decode cX10_undo 55 = .ok (.aastore, 1) := by decide +kernel
theorem dX10_undo_56 : decode cX10_undo 56 = .ok (.aload_n 0, 1) := by decide +kernel
theorem dX10_undo_57 : decode cX10_undo 57 = .ok (.getfield 20, 3) := by decide +kernel
theorem dX10_undo_60 : decode cX10_undo 60 = .ok (.ireturn, 1) := by decide +kernel
theorem dX10_digest_0 : decode cX10_digest 0 = .ok (.ldc2_w 283, 3) := by decide +kernel
theorem dX10_digest_3 : decode cX10_digest 3 = .ok (.lstore_n 1, 1) := by decide +kernel
theorem dX10_digest_4 : decode cX10_digest 4 = .ok (.lload_n 1, 1) := by decide +kernel
theorem dX10_digest_5 : decode cX10_digest 5 = .ok (.aload_n 0, 1) := by decide +kernel
theorem dX10_digest_6 : decode cX10_digest 6 = .ok (.getfield 20, 3) := by decide +kernel
theorem dX10_digest_9 : decode cX10_digest 9 = .ok (.i2l, 1) := by decide +kernel
theorem dX10_digest_10 : decode cX10_digest 10 = .ok (.invokestatic 285, 3) := by decide +kernel
theorem dX10_digest_13 : decode cX10_digest 13 = .ok (.lstore_n 1, 1) := by decide +kernel
theorem dX10_digest_14 : decode cX10_digest 14 = .ok (.lload_n 1, 1) := by decide +kernel
theorem dX10_digest_15 : decode cX10_digest 15 = .ok (.aload_n 0, 1) := by decide +kernel
theorem dX10_digest_16 : decode cX10_digest 16 = .ok (.getfield 10, 3) := by decide +kernel
theorem dX10_digest_19 : decode cX10_digest 19 = .ok (.getfield 47, 3) := by decide +kernel
theorem dX10_digest_22 : decode cX10_digest 22 = .ok (.i2l, 1) := by decide +kernel
theorem dX10_digest_23 : decode cX10_digest 23 = .ok (.invokestatic 285, 3) := by decide +kernel
theorem dX10_digest_26 : decode cX10_digest 26 = .ok (.lstore_n 1, 1) := by decide +kernel
theorem dX10_digest_27 : decode cX10_digest 27 = .ok (.lload_n 1, 1) := by decide +kernel
theorem dX10_digest_28 : decode cX10_digest 28 = .ok (.aload_n 0, 1) := by decide +kernel
theorem dX10_digest_29 : decode cX10_digest 29 = .ok (.getfield 10, 3) := by decide +kernel
theorem dX10_digest_32 : decode cX10_digest 32 = .ok (.getfield 75, 3) := by decide +kernel
theorem dX10_digest_35 : decode cX10_digest 35 = .ok (.i2l, 1) := by decide +kernel
theorem dX10_digest_36 : decode cX10_digest 36 = .ok (.invokestatic 285, 3) := by decide +kernel
theorem dX10_digest_39 : decode cX10_digest 39 = .ok (.lstore_n 1, 1) := by decide +kernel
theorem dX10_digest_40 : decode cX10_digest 40 = .ok (.lload_n 1, 1) := by decide +kernel
theorem dX10_digest_41 : decode cX10_digest 41 = .ok (.aload_n 0, 1) := by decide +kernel
theorem dX10_digest_42 : decode cX10_digest 42 = .ok (.getfield 10, 3) := by decide +kernel
theorem dX10_digest_45 : decode cX10_digest 45 = .ok (.getfield 78, 3) := by decide +kernel
theorem dX10_digest_48 : decode cX10_digest 48 = .ok (.i2l, 1) := by decide +kernel
theorem dX10_digest_49 : decode cX10_digest 49 = .ok (.invokestatic 285, 3) := by decide +kernel
theorem dX10_digest_52 : decode cX10_digest 52 = .ok (.lstore_n 1, 1) := by decide +kernel
theorem dX10_digest_53 : decode cX10_digest 53 = .ok (.lload_n 1, 1) := by decide +kernel
theorem dX10_digest_54 : decode cX10_digest 54 = .ok (.aload_n 0, 1) := by decide +kernel
theorem dX10_digest_55 : decode cX10_digest 55 = .ok (.invokevirtual 288, 3) := by decide +kernel
theorem dX10_digest_58 : decode cX10_digest 58 = .ok (.i2l, 1) := by decide +kernel
theorem dX10_digest_59 : decode cX10_digest 59 = .ok (.invokestatic 285, 3) := by decide +kernel
theorem dX10_digest_62 : decode cX10_digest 62 = .ok (.lstore_n 1, 1) := by decide +kernel
theorem dX10_digest_63 : decode cX10_digest 63 = .ok (.lload_n 1, 1) := by decide +kernel
theorem dX10_digest_64 : decode cX10_digest 64 = .ok (.aload_n 0, 1) := by decide +kernel
theorem dX10_digest_65 : decode cX10_digest 65 = .ok (.invokevirtual 290, 3) := by decide +kernel
theorem dX10_digest_68 : decode cX10_digest 68 = .ok (.i2l, 1) := by decide +kernel
theorem dX10_digest_69 : decode cX10_digest 69 = .ok (.invokestatic 285, 3) := by decide +kernel
theorem dX10_digest_72 : decode cX10_digest 72 = .ok (.lstore_n 1, 1) := by decide +kernel
theorem dX10_digest_73 : decode cX10_digest 73 = .ok (.lload_n 1, 1) := by decide +kernel
theorem dX10_digest_74 : decode cX10_digest 74 = .ok (.aload_n 0, 1) := by decide +kernel
theorem dX10_digest_75 : decode cX10_digest 75 = .ok (.invokevirtual 293, 3) := by decide +kernel
theorem dX10_digest_78 : decode cX10_digest 78 = .ok (.invokestatic 285, 3) := by decide +kernel
theorem dX10_digest_81 : decode cX10_digest 81 = .ok (.lstore_n 1, 1) := by decide +kernel
theorem dX10_digest_82 : decode cX10_digest 82 = .ok (.aload_n 0, 1) := by decide +kernel
theorem dX10_digest_83 : decode cX10_digest 83 = .ok (.lload_n 1, 1) := by decide +kernel
theorem dX10_digest_84 : decode cX10_digest 84 = .ok (.invokevirtual 296, 3) := by decide +kernel
theorem dX10_digest_87 : decode cX10_digest 87 = .ok (.lstore_n 1, 1) := by decide +kernel
theorem dX10_digest_88 : decode cX10_digest 88 = .ok (.aload_n 0, 1) := by decide +kernel
theorem dX10_digest_89 : decode cX10_digest 89 = .ok (.lload_n 1, 1) := by decide +kernel
theorem dX10_digest_90 : decode cX10_digest 90 = .ok (.invokevirtual 300, 3) := by decide +kernel
theorem dX10_digest_93 : decode cX10_digest 93 = .ok (.lstore_n 1, 1) := by decide +kernel
theorem dX10_digest_94 : decode cX10_digest 94 = .ok (.aload_n 0, 1) := by decide +kernel
theorem dX10_digest_95 : decode cX10_digest 95 = .ok (.lload_n 1, 1) := by decide +kernel
theorem dX10_digest_96 : decode cX10_digest 96 = .ok (.invokevirtual 303, 3) := by decide +kernel
theorem dX10_digest_99 : decode cX10_digest 99 = .ok (.lstore_n 1, 1) := by decide +kernel
theorem dX10_digest_100 : decode cX10_digest 100 = .ok (.aload_n 0, 1) := by decide +kernel
theorem dX10_digest_101 : decode cX10_digest 101 = .ok (.lload_n 1, 1) := by decide +kernel
theorem dX10_digest_102 : decode cX10_digest 102 = .ok (.invokevirtual 306, 3) := by decide +kernel
theorem dX10_digest_105 : decode cX10_digest 105 = .ok (.lstore_n 1, 1) := by decide +kernel
theorem dX10_digest_106 : decode cX10_digest 106 = .ok (.aload_n 0, 1) := by decide +kernel
theorem dX10_digest_107 : decode cX10_digest 107 = .ok (.lload_n 1, 1) := by decide +kernel
theorem dX10_digest_108 : decode cX10_digest 108 = .ok (.invokevirtual 309, 3) := by decide +kernel
theorem dX10_digest_111 : decode cX10_digest 111 = .ok (.lreturn, 1) := by decide +kernel
theorem dX10_mixChannels_0 : decode cX10_mixChannels 0 = .ok (.lload_n 1, 1) := by decide +kernel
theorem dX10_mixChannels_1 : decode cX10_mixChannels 1 = .ok (.lstore_n 3, 1) := by decide +kernel
theorem dX10_mixChannels_2 : decode cX10_mixChannels 2 = .ok (.iconst 0, 1) := by decide +kernel
theorem dX10_mixChannels_3 : decode cX10_mixChannels 3 = .ok (.istore 5, 2) := by decide +kernel
theorem dX10_mixChannels_5 : decode cX10_mixChannels 5 = .ok (.iload 5, 2) := by decide +kernel
theorem dX10_mixChannels_7 : decode cX10_mixChannels 7 = .ok (.iconst 4, 1) := by decide +kernel
theorem dX10_mixChannels_8 : decode cX10_mixChannels 8 = .ok (.if_icmp .ge 141, 3) := by decide +kernel
theorem dX10_mixChannels_11 : decode cX10_mixChannels 11 = .ok (.aload_n 0, 1) := by decide +kernel
theorem dX10_mixChannels_12 : decode cX10_mixChannels 12 = .ok (.getfield 10, 3) := by decide +kernel
theorem dX10_mixChannels_15 : decode cX10_mixChannels 15 = .ok (.getfield 57, 3) := by decide +kernel
theorem dX10_mixChannels_18 : decode cX10_mixChannels 18 = .ok (.iload 5, 2) := by decide +kernel
theorem dX10_mixChannels_20 : decode cX10_mixChannels 20 = .ok (.aaload, 1) := by decide +kernel
theorem dX10_mixChannels_21 : decode cX10_mixChannels 21 = .ok (.astore 6, 2) := by decide +kernel
theorem dX10_mixChannels_23 : decode cX10_mixChannels 23 = .ok (.lload_n 3, 1) := by decide +kernel
theorem dX10_mixChannels_24 : decode cX10_mixChannels 24 = .ok (.aload 6, 2) := by decide +kernel
theorem dX10_mixChannels_26 : decode cX10_mixChannels 26 = .ok (.getfield 61, 3) := by decide +kernel
theorem dX10_mixChannels_29 : decode cX10_mixChannels 29 = .ok (.i2l, 1) := by decide +kernel
theorem dX10_mixChannels_30 : decode cX10_mixChannels 30 = .ok (.invokestatic 285, 3) := by decide +kernel
theorem dX10_mixChannels_33 : decode cX10_mixChannels 33 = .ok (.lstore_n 3, 1) := by decide +kernel
theorem dX10_mixChannels_34 : decode cX10_mixChannels 34 = .ok (.lload_n 3, 1) := by decide +kernel
theorem dX10_mixChannels_35 : decode cX10_mixChannels 35 = .ok (.aload 6, 2) := by decide +kernel
theorem dX10_mixChannels_37 : decode cX10_mixChannels 37 = .ok (.getfield 66, 3) := by decide +kernel
theorem dX10_mixChannels_40 : decode cX10_mixChannels 40 = .ok (.i2l, 1) := by decide +kernel
theorem dX10_mixChannels_41 : decode cX10_mixChannels 41 = .ok (.invokestatic 285, 3) := by decide +kernel
theorem dX10_mixChannels_44 : decode cX10_mixChannels 44 = .ok (.lstore_n 3, 1) := by decide +kernel
theorem dX10_mixChannels_45 : decode cX10_mixChannels 45 = .ok (.lload_n 3, 1) := by decide +kernel
theorem dX10_mixChannels_46 : decode cX10_mixChannels 46 = .ok (.aload 6, 2) := by decide +kernel
theorem dX10_mixChannels_48 : decode cX10_mixChannels 48 = .ok (.getfield 69, 3) := by decide +kernel
theorem dX10_mixChannels_51 : decode cX10_mixChannels 51 = .ok (.i2l, 1) := by decide +kernel
theorem dX10_mixChannels_52 : decode cX10_mixChannels 52 = .ok (.invokestatic 285, 3) := by decide +kernel
theorem dX10_mixChannels_55 : decode cX10_mixChannels 55 = .ok (.lstore_n 3, 1) := by decide +kernel
theorem dX10_mixChannels_56 : decode cX10_mixChannels 56 = .ok (.iconst 0, 1) := by decide +kernel
theorem dX10_mixChannels_57 : decode cX10_mixChannels 57 = .ok (.istore 7, 2) := by decide +kernel
theorem dX10_mixChannels_59 : decode cX10_mixChannels 59 = .ok (.iload 7, 2) := by decide +kernel
theorem dX10_mixChannels_61 : decode cX10_mixChannels 61 = .ok (.iconst 2, 1) := by decide +kernel
theorem dX10_mixChannels_62 : decode cX10_mixChannels 62 = .ok (.if_icmp .gt 23, 3) := by decide +kernel
theorem dX10_mixChannels_65 : decode cX10_mixChannels 65 = .ok (.lload_n 3, 1) := by decide +kernel
theorem dX10_mixChannels_66 : decode cX10_mixChannels 66 = .ok (.aload_n 0, 1) := by decide +kernel
theorem dX10_mixChannels_67 : decode cX10_mixChannels 67 = .ok (.iload 5, 2) := by decide +kernel
theorem dX10_mixChannels_69 : decode cX10_mixChannels 69 = .ok (.iload 7, 2) := by decide +kernel
theorem dX10_mixChannels_71 : decode cX10_mixChannels 71 = .ok (.invokevirtual 312, 3) := by decide +kernel
theorem dX10_mixChannels_74 : decode cX10_mixChannels 74 = .ok (.i2l, 1) := by decide +kernel
theorem dX10_mixChannels_75 : decode cX10_mixChannels 75 = .ok (.invokestatic 285, 3) := by decide +kernel
theorem dX10_mixChannels_78 : decode cX10_mixChannels 78 = .ok (.lstore_n 3, 1) := by decide +kernel
theorem dX10_mixChannels_79 : decode cX10_mixChannels 79 = .ok (.iinc 7 1, 3) := by decide +kernel
theorem dX10_mixChannels_82 : decode cX10_mixChannels 82 = .ok (.goto (-23), 3) := by decide +kernel
theorem dX10_mixChannels_85 : decode cX10_mixChannels 85 = .ok (.iconst 0, 1) := by decide +kernel
theorem dX10_mixChannels_86 : decode cX10_mixChannels 86 = .ok (.istore 7, 2) := by decide +kernel
theorem dX10_mixChannels_88 : decode cX10_mixChannels 88 = .ok (.iload 7, 2) := by decide +kernel
theorem dX10_mixChannels_90 : decode cX10_mixChannels 90 = .ok (.iconst 2, 1) := by decide +kernel
theorem dX10_mixChannels_91 : decode cX10_mixChannels 91 = .ok (.if_icmp .gt 23, 3) := by decide +kernel
theorem dX10_mixChannels_94 : decode cX10_mixChannels 94 = .ok (.lload_n 3, 1) := by decide +kernel
theorem dX10_mixChannels_95 : decode cX10_mixChannels 95 = .ok (.aload_n 0, 1) := by decide +kernel
theorem dX10_mixChannels_96 : decode cX10_mixChannels 96 = .ok (.iload 5, 2) := by decide +kernel
theorem dX10_mixChannels_98 : decode cX10_mixChannels 98 = .ok (.iload 7, 2) := by decide +kernel
theorem dX10_mixChannels_100 : decode cX10_mixChannels 100 = .ok (.invokevirtual 316, 3) := by decide +kernel
theorem dX10_mixChannels_103 : decode cX10_mixChannels 103 = .ok (.i2l, 1) := by decide +kernel
theorem dX10_mixChannels_104 : decode cX10_mixChannels 104 = .ok (.invokestatic 285, 3) := by decide +kernel
theorem dX10_mixChannels_107 : decode cX10_mixChannels 107 = .ok (.lstore_n 3, 1) := by decide +kernel
theorem dX10_mixChannels_108 : decode cX10_mixChannels 108 = .ok (.iinc 7 1, 3) := by decide +kernel
theorem dX10_mixChannels_111 : decode cX10_mixChannels 111 = .ok (.goto (-23), 3) := by decide +kernel
theorem dX10_mixChannels_114 : decode cX10_mixChannels 114 = .ok (.iconst 0, 1) := by decide +kernel
theorem dX10_mixChannels_115 : decode cX10_mixChannels 115 = .ok (.istore 7, 2) := by decide +kernel
theorem dX10_mixChannels_117 : decode cX10_mixChannels 117 = .ok (.iload 7, 2) := by decide +kernel
theorem dX10_mixChannels_119 : decode cX10_mixChannels 119 = .ok (.iconst 3, 1) := by decide +kernel
theorem dX10_mixChannels_120 : decode cX10_mixChannels 120 = .ok (.if_icmp .gt 23, 3) := by decide +kernel
theorem dX10_mixChannels_123 : decode cX10_mixChannels 123 = .ok (.lload_n 3, 1) := by decide +kernel
theorem dX10_mixChannels_124 : decode cX10_mixChannels 124 = .ok (.aload_n 0, 1) := by decide +kernel
theorem dX10_mixChannels_125 : decode cX10_mixChannels 125 = .ok (.iload 5, 2) := by decide +kernel
theorem dX10_mixChannels_127 : decode cX10_mixChannels 127 = .ok (.iload 7, 2) := by decide +kernel
theorem dX10_mixChannels_129 : decode cX10_mixChannels 129 = .ok (.invokevirtual 319, 3) := by decide +kernel
theorem dX10_mixChannels_132 : decode cX10_mixChannels 132 = .ok (.i2l, 1) := by decide +kernel
theorem dX10_mixChannels_133 : decode cX10_mixChannels 133 = .ok (.invokestatic 285, 3) := by decide +kernel
theorem dX10_mixChannels_136 : decode cX10_mixChannels 136 = .ok (.lstore_n 3, 1) := by decide +kernel
theorem dX10_mixChannels_137 : decode cX10_mixChannels 137 = .ok (.iinc 7 1, 3) := by decide +kernel
theorem dX10_mixChannels_140 : decode cX10_mixChannels 140 = .ok (.goto (-23), 3) := by decide +kernel
theorem dX10_mixChannels_143 : decode cX10_mixChannels 143 = .ok (.iinc 5 1, 3) := by decide +kernel
theorem dX10_mixChannels_146 : decode cX10_mixChannels 146 = .ok (.goto (-141), 3) := by decide +kernel
theorem dX10_mixChannels_149 : decode cX10_mixChannels 149 = .ok (.lload_n 3, 1) := by decide +kernel
theorem dX10_mixChannels_150 : decode cX10_mixChannels 150 = .ok (.aload_n 0, 1) := by decide +kernel
theorem dX10_mixChannels_151 : decode cX10_mixChannels 151 = .ok (.bipush 7, 2) := by decide +kernel
theorem dX10_mixChannels_153 : decode cX10_mixChannels 153 = .ok (.iconst 0, 1) := by decide +kernel
theorem dX10_mixChannels_154 : decode cX10_mixChannels 154 = .ok (.invokevirtual 316, 3) := by decide +kernel
theorem dX10_mixChannels_157 : decode cX10_mixChannels 157 = .ok (.i2l, 1) := by decide +kernel
theorem dX10_mixChannels_158 : decode cX10_mixChannels 158 = .ok (.invokestatic 285, 3) := by decide +kernel
theorem dX10_mixChannels_161 : decode cX10_mixChannels 161 = .ok (.lreturn, 1) := by decide +kernel
theorem dX10_mixWire_0 : decode cX10_mixWire 0 = .ok (.lload_n 1, 1) := by decide +kernel
theorem dX10_mixWire_1 : decode cX10_mixWire 1 = .ok (.aload_n 0, 1) := by decide +kernel
theorem dX10_mixWire_2 : decode cX10_mixWire 2 = .ok (.invokevirtual 322, 3) := by decide +kernel
theorem dX10_mixWire_5 : decode cX10_mixWire 5 = .ok (.i2l, 1) := by decide +kernel
theorem dX10_mixWire_6 : decode cX10_mixWire 6 = .ok (.invokestatic 285, 3) := by decide +kernel
theorem dX10_mixWire_9 : decode cX10_mixWire 9 = .ok (.lstore_n 3, 1) := by decide +kernel
theorem dX10_mixWire_10 : decode cX10_mixWire 10 = .ok (.iconst 0, 1) := by decide +kernel
theorem dX10_mixWire_11 : decode cX10_mixWire 11 = .ok (.istore 5, 2) := by decide +kernel
theorem dX10_mixWire_13 : decode cX10_mixWire 13 = .ok (.iload 5, 2) := by decide +kernel
theorem dX10_mixWire_15 : decode cX10_mixWire 15 = .ok (.aload_n 0, 1) := by decide +kernel
theorem dX10_mixWire_16 : decode cX10_mixWire 16 = .ok (.getfield 10, 3) := by decide +kernel
theorem dX10_mixWire_19 : decode cX10_mixWire 19 = .ok (.getfield 106, 3) := by decide +kernel
theorem dX10_mixWire_22 : decode cX10_mixWire 22 = .ok (.getfield 110, 3) := by decide +kernel
theorem dX10_mixWire_25 : decode cX10_mixWire 25 = .ok (.if_icmp .ge 64, 3) := by decide +kernel
theorem dX10_mixWire_28 : decode cX10_mixWire 28 = .ok (.aload_n 0, 1) := by decide +kernel
theorem dX10_mixWire_29 : decode cX10_mixWire 29 = .ok (.getfield 10, 3) := by decide +kernel
theorem dX10_mixWire_32 : decode cX10_mixWire 32 = .ok (.getfield 106, 3) := by decide +kernel
theorem dX10_mixWire_35 : decode cX10_mixWire 35 = .ok (.getfield 139, 3) := by decide +kernel
theorem dX10_mixWire_38 : decode cX10_mixWire 38 = .ok (.iload 5, 2) := by decide +kernel
theorem dX10_mixWire_40 : decode cX10_mixWire 40 = .ok (.aaload, 1) := by decide +kernel
theorem dX10_mixWire_41 : decode cX10_mixWire 41 = .ok (.astore 6, 2) := by decide +kernel
theorem dX10_mixWire_43 : decode cX10_mixWire 43 = .ok (.lload_n 3, 1) := by decide +kernel
theorem dX10_mixWire_44 : decode cX10_mixWire 44 = .ok (.aload 6, 2) := by decide +kernel
theorem dX10_mixWire_46 : decode cX10_mixWire 46 = .ok (.getfield 159, 3) := by decide +kernel
theorem dX10_mixWire_49 : decode cX10_mixWire 49 = .ok (.ifCond .eq 7, 3) := by decide +kernel
theorem dX10_mixWire_52 : decode cX10_mixWire 52 = .ok (.lconst 1, 1) := by decide +kernel
theorem dX10_mixWire_53 : decode cX10_mixWire 53 = .ok (.goto 4, 3) := by decide +kernel
theorem dX10_mixWire_56 : decode cX10_mixWire 56 = .ok (.lconst 0, 1) := by decide +kernel
theorem dX10_mixWire_57 : decode cX10_mixWire 57 = .ok (.invokestatic 285, 3) := by decide +kernel
theorem dX10_mixWire_60 : decode cX10_mixWire 60 = .ok (.lstore_n 3, 1) := by decide +kernel
theorem dX10_mixWire_61 : decode cX10_mixWire 61 = .ok (.lload_n 3, 1) := by decide +kernel
theorem dX10_mixWire_62 : decode cX10_mixWire 62 = .ok (.aload 6, 2) := by decide +kernel
theorem dX10_mixWire_64 : decode cX10_mixWire 64 = .ok (.invokevirtual 324, 3) := by decide +kernel
theorem dX10_mixWire_67 : decode cX10_mixWire 67 = .ok (.i2l, 1) := by decide +kernel
theorem dX10_mixWire_68 : decode cX10_mixWire 68 = .ok (.invokestatic 285, 3) := by decide +kernel
theorem dX10_mixWire_71 : decode cX10_mixWire 71 = .ok (.lstore_n 3, 1) := by decide +kernel
theorem dX10_mixWire_72 : decode cX10_mixWire 72 = .ok (.lload_n 3, 1) := by decide +kernel
theorem dX10_mixWire_73 : decode cX10_mixWire 73 = .ok (.aload 6, 2) := by decide +kernel
theorem dX10_mixWire_75 : decode cX10_mixWire 75 = .ok (.invokevirtual 327, 3) := by decide +kernel
theorem dX10_mixWire_78 : decode cX10_mixWire 78 = .ok (.i2l, 1) := by decide +kernel
theorem dX10_mixWire_79 : decode cX10_mixWire 79 = .ok (.invokestatic 285, 3) := by decide +kernel
theorem dX10_mixWire_82 : decode cX10_mixWire 82 = .ok (.lstore_n 3, 1) := by decide +kernel
theorem dX10_mixWire_83 : decode cX10_mixWire 83 = .ok (.iinc 5 1, 3) := by decide +kernel
theorem dX10_mixWire_86 : decode cX10_mixWire 86 = .ok (.goto (-73), 3) := by decide +kernel
theorem dX10_mixWire_89 : decode cX10_mixWire 89 = .ok (.lload_n 3, 1) := by decide +kernel
theorem dX10_mixWire_90 : decode cX10_mixWire 90 = .ok (.lreturn, 1) := by decide +kernel
theorem dX10_mixCounts_0 : decode cX10_mixCounts 0 = .ok (.lload_n 1, 1) := by decide +kernel
theorem dX10_mixCounts_1 : decode cX10_mixCounts 1 = .ok (.lstore_n 3, 1) := by decide +kernel
theorem dX10_mixCounts_2 : decode cX10_mixCounts 2 = .ok (.iconst 0, 1) := by decide +kernel
theorem dX10_mixCounts_3 : decode cX10_mixCounts 3 = .ok (.istore 5, 2) := by decide +kernel
theorem dX10_mixCounts_5 : decode cX10_mixCounts 5 = .ok (.iload 5, 2) := by decide +kernel
theorem dX10_mixCounts_7 : decode cX10_mixCounts 7 = .ok (.bipush 6, 2) := by decide +kernel
theorem dX10_mixCounts_9 : decode cX10_mixCounts 9 = .ok (.if_icmp .ge 21, 3) := by decide +kernel
theorem dX10_mixCounts_12 : decode cX10_mixCounts 12 = .ok (.lload_n 3, 1) := by decide +kernel
theorem dX10_mixCounts_13 : decode cX10_mixCounts 13 = .ok (.aload_n 0, 1) := by decide +kernel
theorem dX10_mixCounts_14 : decode cX10_mixCounts 14 = .ok (.iload 5, 2) := by decide +kernel
theorem dX10_mixCounts_16 : decode cX10_mixCounts 16 = .ok (.invokevirtual 330, 3) := by decide +kernel
theorem dX10_mixCounts_19 : decode cX10_mixCounts 19 = .ok (.i2l, 1) := by decide +kernel
theorem dX10_mixCounts_20 : decode cX10_mixCounts 20 = .ok (.invokestatic 285, 3) := by decide +kernel
theorem dX10_mixCounts_23 : decode cX10_mixCounts 23 = .ok (.lstore_n 3, 1) := by decide +kernel
theorem dX10_mixCounts_24 : decode cX10_mixCounts 24 = .ok (.iinc 5 1, 3) := by decide +kernel
theorem dX10_mixCounts_27 : decode cX10_mixCounts 27 = .ok (.goto (-22), 3) := by decide +kernel
theorem dX10_mixCounts_30 : decode cX10_mixCounts 30 = .ok (.iconst 0, 1) := by decide +kernel
theorem dX10_mixCounts_31 : decode cX10_mixCounts 31 = .ok (.istore 5, 2) := by decide +kernel
theorem dX10_mixCounts_33 : decode cX10_mixCounts 33 = .ok (.iload 5, 2) := by decide +kernel
theorem dX10_mixCounts_35 : decode cX10_mixCounts 35 = .ok (.bipush 15, 2) := by decide +kernel
theorem dX10_mixCounts_37 : decode cX10_mixCounts 37 = .ok (.if_icmp .ge 38, 3) := by decide +kernel
theorem dX10_mixCounts_40 : decode cX10_mixCounts 40 = .ok (.iconst 0, 1) := by decide +kernel
theorem dX10_mixCounts_41 : decode cX10_mixCounts 41 = .ok (.istore 6, 2) := by decide +kernel
theorem dX10_mixCounts_43 : decode cX10_mixCounts 43 = .ok (.iload 6, 2) := by decide +kernel
theorem dX10_mixCounts_45 : decode cX10_mixCounts 45 = .ok (.iconst 2, 1) := by decide +kernel
theorem dX10_mixCounts_46 : decode cX10_mixCounts 46 = .ok (.if_icmp .gt 23, 3) := by decide +kernel
theorem dX10_mixCounts_49 : decode cX10_mixCounts 49 = .ok (.lload_n 3, 1) := by decide +kernel
theorem dX10_mixCounts_50 : decode cX10_mixCounts 50 = .ok (.aload_n 0, 1) := by decide +kernel
theorem dX10_mixCounts_51 : decode cX10_mixCounts 51 = .ok (.iload 5, 2) := by decide +kernel
theorem dX10_mixCounts_53 : decode cX10_mixCounts 53 = .ok (.iload 6, 2) := by decide +kernel
theorem dX10_mixCounts_55 : decode cX10_mixCounts 55 = .ok (.invokevirtual 333, 3) := by decide +kernel
theorem dX10_mixCounts_58 : decode cX10_mixCounts 58 = .ok (.i2l, 1) := by decide +kernel
theorem dX10_mixCounts_59 : decode cX10_mixCounts 59 = .ok (.invokestatic 285, 3) := by decide +kernel
theorem dX10_mixCounts_62 : decode cX10_mixCounts 62 = .ok (.lstore_n 3, 1) := by decide +kernel
theorem dX10_mixCounts_63 : decode cX10_mixCounts 63 = .ok (.iinc 6 1, 3) := by decide +kernel
theorem dX10_mixCounts_66 : decode cX10_mixCounts 66 = .ok (.goto (-23), 3) := by decide +kernel
theorem dX10_mixCounts_69 : decode cX10_mixCounts 69 = .ok (.iinc 5 1, 3) := by decide +kernel
theorem dX10_mixCounts_72 : decode cX10_mixCounts 72 = .ok (.goto (-39), 3) := by decide +kernel
theorem dX10_mixCounts_75 : decode cX10_mixCounts 75 = .ok (.lload_n 3, 1) := by decide +kernel
theorem dX10_mixCounts_76 : decode cX10_mixCounts 76 = .ok (.lreturn, 1) := by decide +kernel
theorem dX10_mixPackets_0 : decode cX10_mixPackets 0 = .ok (.lload_n 1, 1) := by decide +kernel
theorem dX10_mixPackets_1 : decode cX10_mixPackets 1 = .ok (.aload_n 0, 1) := by decide +kernel
theorem dX10_mixPackets_2 : decode cX10_mixPackets 2 = .ok (.invokevirtual 335, 3) := by decide +kernel
theorem dX10_mixPackets_5 : decode cX10_mixPackets 5 = .ok (.i2l, 1) := by decide +kernel
theorem dX10_mixPackets_6 : decode cX10_mixPackets 6 = .ok (.invokestatic 285, 3) := by decide +kernel
theorem dX10_mixPackets_9 : decode cX10_mixPackets 9 = .ok (.lstore_n 3, 1) := by decide +kernel
theorem dX10_mixPackets_10 : decode cX10_mixPackets 10 = .ok (.iconst 0, 1) := by decide +kernel
theorem dX10_mixPackets_11 : decode cX10_mixPackets 11 = .ok (.istore 5, 2) := by decide +kernel
theorem dX10_mixPackets_13 : decode cX10_mixPackets 13 = .ok (.iload 5, 2) := by decide +kernel
theorem dX10_mixPackets_15 : decode cX10_mixPackets 15 = .ok (.aload_n 0, 1) := by decide +kernel
theorem dX10_mixPackets_16 : decode cX10_mixPackets 16 = .ok (.invokevirtual 335, 3) := by decide +kernel
theorem dX10_mixPackets_19 : decode cX10_mixPackets 19 = .ok (.if_icmp .ge 38, 3) := by decide +kernel
theorem dX10_mixPackets_22 : decode cX10_mixPackets 22 = .ok (.iconst 0, 1) := by decide +kernel
theorem dX10_mixPackets_23 : decode cX10_mixPackets 23 = .ok (.istore 6, 2) := by decide +kernel
theorem dX10_mixPackets_25 : decode cX10_mixPackets 25 = .ok (.iload 6, 2) := by decide +kernel
theorem dX10_mixPackets_27 : decode cX10_mixPackets 27 = .ok (.iconst 4, 1) := by decide +kernel
theorem dX10_mixPackets_28 : decode cX10_mixPackets 28 = .ok (.if_icmp .gt 23, 3) := by decide +kernel
theorem dX10_mixPackets_31 : decode cX10_mixPackets 31 = .ok (.lload_n 3, 1) := by decide +kernel
theorem dX10_mixPackets_32 : decode cX10_mixPackets 32 = .ok (.aload_n 0, 1) := by decide +kernel
theorem dX10_mixPackets_33 : decode cX10_mixPackets 33 = .ok (.iload 5, 2) := by decide +kernel
theorem dX10_mixPackets_35 : decode cX10_mixPackets 35 = .ok (.iload 6, 2) := by decide +kernel
theorem dX10_mixPackets_37 : decode cX10_mixPackets 37 = .ok (.invokevirtual 338, 3) := by decide +kernel
theorem dX10_mixPackets_40 : decode cX10_mixPackets 40 = .ok (.i2l, 1) := by decide +kernel
theorem dX10_mixPackets_41 : decode cX10_mixPackets 41 = .ok (.invokestatic 285, 3) := by decide +kernel
theorem dX10_mixPackets_44 : decode cX10_mixPackets 44 = .ok (.lstore_n 3, 1) := by decide +kernel
theorem dX10_mixPackets_45 : decode cX10_mixPackets 45 = .ok (.iinc 6 1, 3) := by decide +kernel
theorem dX10_mixPackets_48 : decode cX10_mixPackets 48 = .ok (.goto (-23), 3) := by decide +kernel
theorem dX10_mixPackets_51 : decode cX10_mixPackets 51 = .ok (.iinc 5 1, 3) := by decide +kernel
theorem dX10_mixPackets_54 : decode cX10_mixPackets 54 = .ok (.goto (-41), 3) := by decide +kernel
theorem dX10_mixPackets_57 : decode cX10_mixPackets 57 = .ok (.lload_n 3, 1) := by decide +kernel
theorem dX10_mixPackets_58 : decode cX10_mixPackets 58 = .ok (.lreturn, 1) := by decide +kernel
theorem dX10_mixTimes_0 : decode cX10_mixTimes 0 = .ok (.aload_n 0, 1) := by decide +kernel
theorem dX10_mixTimes_1 : decode cX10_mixTimes 1 = .ok (.getfield 10, 3) := by decide +kernel
theorem dX10_mixTimes_4 : decode cX10_mixTimes 4 = .ok (.getfield 170, 3) := by decide +kernel
theorem dX10_mixTimes_7 : decode cX10_mixTimes 7 = .ok (.getfield 253, 3) := by decide +kernel
theorem dX10_mixTimes_10 : decode cX10_mixTimes 10 = .ok (.astore_n 3, 1) := by decide +kernel
theorem dX10_mixTimes_11 : decode cX10_mixTimes 11 = .ok (.lload_n 1, 1) := by decide +kernel
theorem dX10_mixTimes_12 : decode cX10_mixTimes 12 = .ok (.aload_n 3, 1) := by decide +kernel
theorem dX10_mixTimes_13 : decode cX10_mixTimes 13 = .ok (.getfield 257, 3) := by decide +kernel
theorem dX10_mixTimes_16 : decode cX10_mixTimes 16 = .ok (.i2l, 1) := by decide +kernel
theorem dX10_mixTimes_17 : decode cX10_mixTimes 17 = .ok (.invokestatic 285, 3) := by decide +kernel
theorem dX10_mixTimes_20 : decode cX10_mixTimes 20 = .ok (.lstore 4, 2) := by decide +kernel
theorem dX10_mixTimes_22 : decode cX10_mixTimes 22 = .ok (.iconst 0, 1) := by decide +kernel
theorem dX10_mixTimes_23 : decode cX10_mixTimes 23 = .ok (.istore 6, 2) := by decide +kernel
theorem dX10_mixTimes_25 : decode cX10_mixTimes 25 = .ok (.iload 6, 2) := by decide +kernel
theorem dX10_mixTimes_27 : decode cX10_mixTimes 27 = .ok (.aload_n 3, 1) := by decide +kernel
theorem dX10_mixTimes_28 : decode cX10_mixTimes 28 = .ok (.getfield 257, 3) := by decide +kernel
theorem dX10_mixTimes_31 : decode cX10_mixTimes 31 = .ok (.if_icmp .ge 37, 3) := by decide +kernel
theorem dX10_mixTimes_34 : decode cX10_mixTimes 34 = .ok (.lload 4, 2) := by decide +kernel
theorem dX10_mixTimes_36 : decode cX10_mixTimes 36 = .ok (.aload_n 3, 1) := by decide +kernel
theorem dX10_mixTimes_37 : decode cX10_mixTimes 37 = .ok (.getfield 266, 3) := by decide +kernel
theorem dX10_mixTimes_40 : decode cX10_mixTimes 40 = .ok (.iload 6, 2) := by decide +kernel
theorem dX10_mixTimes_42 : decode cX10_mixTimes 42 = .ok (.laload, 1) := by decide +kernel
theorem dX10_mixTimes_43 : decode cX10_mixTimes 43 = .ok (.invokestatic 285, 3) := by decide +kernel
theorem dX10_mixTimes_46 : decode cX10_mixTimes 46 = .ok (.lstore 4, 2) := by decide +kernel
theorem dX10_mixTimes_48 : decode cX10_mixTimes 48 = .ok (.lload 4, 2) := by decide +kernel
theorem dX10_mixTimes_50 : decode cX10_mixTimes 50 = .ok (.aload_n 3, 1) := by decide +kernel
theorem dX10_mixTimes_51 : decode cX10_mixTimes 51 = .ok (.getfield 272, 3) := by decide +kernel
theorem dX10_mixTimes_54 : decode cX10_mixTimes 54 = .ok (.iload 6, 2) := by decide +kernel
theorem dX10_mixTimes_56 : decode cX10_mixTimes 56 = .ok (.laload, 1) := by decide +kernel
theorem dX10_mixTimes_57 : decode cX10_mixTimes 57 = .ok (.invokestatic 285, 3) := by decide +kernel
theorem dX10_mixTimes_60 : decode cX10_mixTimes 60 = .ok (.lstore 4, 2) := by decide +kernel
theorem dX10_mixTimes_62 : decode cX10_mixTimes 62 = .ok (.iinc 6 1, 3) := by decide +kernel
theorem dX10_mixTimes_65 : decode cX10_mixTimes 65 = .ok (.goto (-40), 3) := by decide +kernel
theorem dX10_mixTimes_68 : decode cX10_mixTimes 68 = .ok (.lload 4, 2) := by decide +kernel
theorem dX10_mixTimes_70 : decode cX10_mixTimes 70 = .ok (.lreturn, 1) := by decide +kernel
theorem dX10_mix_0 : decode cX10_mix 0 = .ok (.ldc2_w 341, 3) := by decide +kernel
theorem dX10_mix_3 : decode cX10_mix 3 = .ok (.lload_n 0, 1) := by decide +kernel
theorem dX10_mix_4 : decode cX10_mix 4 = .ok (.lmul, 1) := by decide +kernel
theorem dX10_mix_5 : decode cX10_mix 5 = .ok (.lload_n 2, 1) := by decide +kernel
theorem dX10_mix_6 : decode cX10_mix 6 = .ok (.ladd, 1) := by decide +kernel
theorem dX10_mix_7 : decode cX10_mix 7 = .ok (.lreturn, 1) := by decide +kernel
theorem dX10_outside_0 : decode cX10_outside 0 = .ok (.iload_n 0, 1) := by decide +kernel
theorem dX10_outside_1 : decode cX10_outside 1 = .ok (.iload_n 1, 1) := by decide +kernel
theorem dX10_outside_2 : decode cX10_outside 2 = .ok (.if_icmp .lt 8, 3) := by decide +kernel
theorem dX10_outside_5 : decode cX10_outside 5 = .ok (.iload_n 0, 1) := by decide +kernel
theorem dX10_outside_6 : decode cX10_outside 6 = .ok (.iload_n 2, 1) := by decide +kernel
theorem dX10_outside_7 : decode cX10_outside 7 = .ok (.if_icmp .le 7, 3) := by decide +kernel
theorem dX10_outside_10 : decode cX10_outside 10 = .ok (.iconst 1, 1) := by decide +kernel
theorem dX10_outside_11 : decode cX10_outside 11 = .ok (.goto 4, 3) := by decide +kernel
theorem dX10_outside_14 : decode cX10_outside 14 = .ok (.iconst 0, 1) := by decide +kernel
theorem dX10_outside_15 : decode cX10_outside 15 = .ok (.ireturn, 1) := by decide +kernel
theorem dX10_saveState_0 : decode cX10_saveState 0 = .ok (.aload_n 0, 1) := by decide +kernel
theorem dX10_saveState_1 : decode cX10_saveState 1 = .ok (.getfield 20, 3) := by decide +kernel
theorem dX10_saveState_4 : decode cX10_saveState 4 = .ok (.iconst 3, 1) := by decide +kernel
theorem dX10_saveState_5 : decode cX10_saveState 5 = .ok (.if_icmp .lt 49, 3) := by decide +kernel
theorem dX10_saveState_8 : decode cX10_saveState 8 = .ok (.aload_n 0, 1) := by decide +kernel
theorem dX10_saveState_9 : decode cX10_saveState 9 = .ok (.getfield 16, 3) := by decide +kernel
theorem dX10_saveState_12 : decode cX10_saveState 12 = .ok (.iconst 0, 1) := by decide +kernel
theorem dX10_saveState_13 : decode cX10_saveState 13 = .ok (.aaload, 1) := by decide +kernel
theorem dX10_saveState_14 : decode cX10_saveState 14 = .ok (.astore_n 1, 1) := by decide +kernel
theorem dX10_saveState_15 : decode cX10_saveState 15 = .ok (.iconst 1, 1) := by decide +kernel
theorem dX10_saveState_16 : decode cX10_saveState 16 = .ok (.istore_n 2, 1) := by decide +kernel
theorem dX10_saveState_17 : decode cX10_saveState 17 = .ok (.iload_n 2, 1) := by decide +kernel
theorem dX10_saveState_18 : decode cX10_saveState 18 = .ok (.iconst 3, 1) := by decide +kernel
theorem dX10_saveState_19 : decode cX10_saveState 19 = .ok (.if_icmp .ge 23, 3) := by decide +kernel
theorem dX10_saveState_22 : decode cX10_saveState 22 = .ok (.aload_n 0, 1) := by decide +kernel
theorem dX10_saveState_23 : decode cX10_saveState 23 = .ok (.getfield 16, 3) := by decide +kernel
theorem dX10_saveState_26 : decode cX10_saveState 26 = .ok (.iload_n 2, 1) := by decide +kernel
theorem dX10_saveState_27 : decode cX10_saveState 27 = .ok (.iconst 1, 1) := by decide +kernel
theorem dX10_saveState_28 : decode cX10_saveState 28 = .ok (.isub, 1) := by decide +kernel
theorem dX10_saveState_29 : decode cX10_saveState 29 = .ok (.aload_n 0, 1) := by decide +kernel
theorem dX10_saveState_30 : decode cX10_saveState 30 = .ok (.getfield 16, 3) := by decide +kernel
theorem dX10_saveState_33 : decode cX10_saveState 33 = .ok (.iload_n 2, 1) := by decide +kernel
theorem dX10_saveState_34 : decode cX10_saveState 34 = .ok (.aaload, 1) := by decide +kernel
theorem dX10_saveState_35 : decode cX10_saveState 35 = .ok (.aastore, 1) := by decide +kernel
theorem dX10_saveState_36 : decode cX10_saveState 36 = .ok (.iinc 2 1, 3) := by decide +kernel
theorem dX10_saveState_39 : decode cX10_saveState 39 = .ok (.goto (-22), 3) := by decide +kernel
theorem dX10_saveState_42 : decode cX10_saveState 42 = .ok (.aload_n 0, 1) := by decide +kernel
theorem dX10_saveState_43 : decode cX10_saveState 43 = .ok (.getfield 16, 3) := by decide +kernel
theorem dX10_saveState_46 : decode cX10_saveState 46 = .ok (.iconst 2, 1) := by decide +kernel
theorem dX10_saveState_47 : decode cX10_saveState 47 = .ok (.aload_n 1, 1) := by decide +kernel
theorem dX10_saveState_48 : decode cX10_saveState 48 = .ok (.aastore, 1) := by decide +kernel
theorem dX10_saveState_49 : decode cX10_saveState 49 = .ok (.aload_n 0, 1) := by decide +kernel
theorem dX10_saveState_50 : decode cX10_saveState 50 = .ok (.iconst 2, 1) := by decide +kernel
theorem dX10_saveState_51 : decode cX10_saveState 51 = .ok (.putfield 20, 3) := by decide +kernel
theorem dX10_saveState_54 : decode cX10_saveState 54 = .ok (.aload_n 0, 1) := by decide +kernel
theorem dX10_saveState_55 : decode cX10_saveState 55 = .ok (.getfield 16, 3) := by decide +kernel
theorem dX10_saveState_58 : decode cX10_saveState 58 = .ok (.aload_n 0, 1) := by decide +kernel
theorem dX10_saveState_59 : decode cX10_saveState 59 = .ok (.getfield 20, 3) := by decide +kernel
theorem dX10_saveState_62 : decode cX10_saveState 62 = .ok (.aaload, 1) := by decide +kernel
theorem dX10_saveState_63 : decode cX10_saveState 63 = .ok (.aload_n 0, 1) := by decide +kernel
theorem dX10_saveState_64 : decode cX10_saveState 64 = .ok (.getfield 10, 3) := by decide +kernel
theorem dX10_saveState_67 : decode cX10_saveState 67 = .ok (.invokevirtual 343, 3) := by decide +kernel
theorem dX10_saveState_70 : decode cX10_saveState 70 = .ok (.aload_n 0, 1) := by decide +kernel
theorem dX10_saveState_71 : decode cX10_saveState 71 = .ok (.dup, 1) := by decide +kernel
theorem dX10_saveState_72 : decode cX10_saveState 72 = .ok (.getfield 20, 3) := by decide +kernel
theorem dX10_saveState_75 : decode cX10_saveState 75 = .ok (.iconst 1, 1) := by decide +kernel
theorem dX10_saveState_76 : decode cX10_saveState 76 = .ok (.iadd, 1) := by decide +kernel
theorem dX10_saveState_77 : decode cX10_saveState 77 = .ok (.putfield 20, 3) := by decide +kernel
theorem dX10_saveState_80 : decode cX10_saveState 80 = .ok (.return_, 1) := by decide +kernel

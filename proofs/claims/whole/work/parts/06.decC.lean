theorem dX11_init_0 : decode cX11_init 0 = .ok (.aload_n 0, 1) := by decide +kernel
theorem dX11_init_1 : decode cX11_init 1 = .ok (.invokespecial 1, 3) := by decide +kernel
theorem dX11_init_4 : decode cX11_init 4 = .ok (.aload_n 0, 1) := by decide +kernel
theorem dX11_init_5 : decode cX11_init 5 = .ok (.sipush 12309, 3) := by decide +kernel
theorem dX11_init_8 : decode cX11_init 8 = .ok (.newarray .int, 2) := by decide +kernel
theorem dX11_init_10 : decode cX11_init 10 = .ok (.putfield 7, 3) := by decide +kernel
theorem dX11_init_13 : decode cX11_init 13 = .ok (.aload_n 0, 1) := by decide +kernel
theorem dX11_init_14 : decode cX11_init 14 = .ok (.ldc 13, 2) := by decide +kernel
theorem dX11_init_16 : decode cX11_init 16 = .ok (.newarray .int, 2) := by decide +kernel
theorem dX11_init_18 : decode cX11_init 18 = .ok (.putfield 14, 3) := by decide +kernel
theorem dX11_init_21 : decode cX11_init 21 = .ok (.aload_n 0, 1) := by decide +kernel
theorem dX11_init_22 : decode cX11_init 22 = .ok (.getfield 7, 3) := by decide +kernel
theorem dX11_init_25 : decode cX11_init 25 = .ok (.iconst 0, 1) := by decide +kernel
theorem dX11_init_26 : decode cX11_init 26 = .ok (.bipush 16, 2) := by decide +kernel
theorem dX11_init_28 : decode cX11_init 28 = .ok (.iastore, 1) := by decide +kernel
theorem dX11_init_29 : decode cX11_init 29 = .ok (.aload_n 0, 1) := by decide +kernel
theorem dX11_init_30 : decode cX11_init 30 = .ok (.getfield 7, 3) := by decide +kernel
theorem dX11_init_33 : decode cX11_init 33 = .ok (.iconst 2, 1) := by decide +kernel
theorem dX11_init_34 : decode cX11_init 34 = .ok (.sipush 250, 3) := by decide +kernel
theorem dX11_init_37 : decode cX11_init 37 = .ok (.iastore, 1) := by decide +kernel
theorem dX11_init_38 : decode cX11_init 38 = .ok (.aload_n 0, 1) := by decide +kernel
theorem dX11_init_39 : decode cX11_init 39 = .ok (.getfield 7, 3) := by decide +kernel
theorem dX11_init_42 : decode cX11_init 42 = .ok (.sipush 3389, 3) := by decide +kernel
theorem dX11_init_45 : decode cX11_init 45 = .ok (.iconst (-1), 1) := by decide +kernel
theorem dX11_init_46 : decode cX11_init 46 = .ok (.iastore, 1) := by decide +kernel
theorem dX11_init_47 : decode cX11_init 47 = .ok (.iconst 0, 1) := by decide +kernel
theorem dX11_init_48 : decode cX11_init 48 = .ok (.istore_n 1, 1) := by decide +kernel
theorem dX11_init_49 : decode cX11_init 49 = .ok (.iload_n 1, 1) := by decide +kernel
theorem dX11_init_50 : decode cX11_init 50 = .ok (.iconst 5, 1) := by decide +kernel
theorem dX11_init_51 : decode cX11_init 51 = .ok (.if_icmp .ge 20, 3) := by decide +kernel
theorem dX11_init_54 : decode cX11_init 54 = .ok (.aload_n 0, 1) := by decide +kernel
theorem dX11_init_55 : decode cX11_init 55 = .ok (.getfield 7, 3) := by decide +kernel
theorem dX11_init_58 : decode cX11_init 58 = .ok (.sipush 3390, 3) := by decide +kernel
theorem dX11_init_61 : decode cX11_init 61 = .ok (.iload_n 1, 1) := by decide +kernel
theorem dX11_init_62 : decode cX11_init 62 = .ok (.iadd, 1) := by decide +kernel
theorem dX11_init_63 : decode cX11_init 63 = .ok (.iconst (-1), 1) := by decide +kernel
theorem dX11_init_64 : decode cX11_init 64 = .ok (.iastore, 1) := by decide +kernel
theorem dX11_init_65 : decode cX11_init 65 = .ok (.iinc 1 1, 3) := by decide +kernel
theorem dX11_init_68 : decode cX11_init 68 = .ok (.goto (-19), 3) := by decide +kernel
theorem dX11_init_71 : decode cX11_init 71 = .ok (.iconst 0, 1) := by decide +kernel
theorem dX11_init_72 : decode cX11_init 72 = .ok (.istore_n 1, 1) := by decide +kernel
theorem dX11_init_73 : decode cX11_init 73 = .ok (.iload_n 1, 1) := by decide +kernel
theorem dX11_init_74 : decode cX11_init 74 = .ok (.iconst 4, 1) := by decide +kernel
theorem dX11_init_75 : decode cX11_init 75 = .ok (.if_icmp .ge 30, 3) := by decide +kernel
theorem dX11_init_78 : decode cX11_init 78 = .ok (.aload_n 0, 1) := by decide +kernel
theorem dX11_init_79 : decode cX11_init 79 = .ok (.getfield 7, 3) := by decide +kernel
theorem dX11_init_82 : decode cX11_init 82 = .ok (.bipush 29, 2) := by decide +kernel
theorem dX11_init_84 : decode cX11_init 84 = .ok (.iload_n 1, 1) := by decide +kernel
theorem dX11_init_85 : decode cX11_init 85 = .ok (.iadd, 1) := by decide +kernel
theorem dX11_init_86 : decode cX11_init 86 = .ok (.bipush 50, 2) := by decide +kernel
theorem dX11_init_88 : decode cX11_init 88 = .ok (.iastore, 1) := by decide +kernel
theorem dX11_init_89 : decode cX11_init 89 = .ok (.aload_n 0, 1) := by decide +kernel
theorem dX11_init_90 : decode cX11_init 90 = .ok (.getfield 7, 3) := by decide +kernel
theorem dX11_init_93 : decode cX11_init 93 = .ok (.bipush 50, 2) := by decide +kernel
theorem dX11_init_95 : decode cX11_init 95 = .ok (.iload_n 1, 1) := by decide +kernel
theorem dX11_init_96 : decode cX11_init 96 = .ok (.iadd, 1) := by decide +kernel
theorem dX11_init_97 : decode cX11_init 97 = .ok (.iconst (-1), 1) := by decide +kernel
theorem dX11_init_98 : decode cX11_init 98 = .ok (.iastore, 1) := by decide +kernel
theorem dX11_init_99 : decode cX11_init 99 = .ok (.iinc 1 1, 3) := by decide +kernel
theorem dX11_init_102 : decode cX11_init 102 = .ok (.goto (-29), 3) := by decide +kernel
theorem dX11_init_105 : decode cX11_init 105 = .ok (.iconst 0, 1) := by decide +kernel
theorem dX11_init_106 : decode cX11_init 106 = .ok (.istore_n 1, 1) := by decide +kernel
theorem dX11_init_107 : decode cX11_init 107 = .ok (.iload_n 1, 1) := by decide +kernel
theorem dX11_init_108 : decode cX11_init 108 = .ok (.bipush 15, 2) := by decide +kernel
theorem dX11_init_110 : decode cX11_init 110 = .ok (.if_icmp .ge 24, 3) := by decide +kernel
theorem dX11_init_113 : decode cX11_init 113 = .ok (.aload_n 0, 1) := by decide +kernel
theorem dX11_init_114 : decode cX11_init 114 = .ok (.getfield 7, 3) := by decide +kernel
theorem dX11_init_117 : decode cX11_init 117 = .ok (.sipush 4443, 3) := by decide +kernel
theorem dX11_init_120 : decode cX11_init 120 = .ok (.iconst 4, 1) := by decide +kernel
theorem dX11_init_121 : decode cX11_init 121 = .ok (.iload_n 1, 1) := by decide +kernel
theorem dX11_init_122 : decode cX11_init 122 = .ok (.imul, 1) := by decide +kernel
theorem dX11_init_123 : decode cX11_init 123 = .ok (.iadd, 1) := by decide +kernel
theorem dX11_init_124 : decode cX11_init 124 = .ok (.iconst 3, 1) := by decide +kernel
theorem dX11_init_125 : decode cX11_init 125 = .ok (.iadd, 1) := by decide +kernel
theorem dX11_init_126 : decode cX11_init 126 = .ok (.iconst (-1), 1) := by decide +kernel
theorem dX11_init_127 : decode cX11_init 127 = .ok (.iastore, 1) := by decide +kernel
theorem dX11_init_128 : decode cX11_init 128 = .ok (.iinc 1 1, 3) := by decide +kernel
theorem dX11_init_131 : decode cX11_init 131 = .ok (.goto (-24), 3) := by decide +kernel
theorem dX11_init_134 : decode cX11_init 134 = .ok (.return_, 1) := by decide +kernel
theorem dX11_thrown_0 : decode cX11_thrown 0 = .ok (.aload_n 0, 1) := by decide +kernel
theorem dX11_thrown_1 : decode cX11_thrown 1 = .ok (.getfield 17, 3) := by decide +kernel
theorem dX11_thrown_4 : decode cX11_thrown 4 = .ok (.ireturn, 1) := by decide +kernel
theorem dX11_refused_0 : decode cX11_refused 0 = .ok (.aload_n 0, 1) := by decide +kernel
theorem dX11_refused_1 : decode cX11_refused 1 = .ok (.iload_n 1, 1) := by decide +kernel
theorem dX11_refused_2 : decode cX11_refused 2 = .ok (.putfield 17, 3) := by decide +kernel
theorem dX11_refused_5 : decode cX11_refused 5 = .ok (.iload_n 1, 1) := by decide +kernel
theorem dX11_refused_6 : decode cX11_refused 6 = .ok (.ifCond .le 7, 3) := by decide +kernel
theorem dX11_refused_9 : decode cX11_refused 9 = .ok (.iconst 1, 1) := by decide +kernel
theorem dX11_refused_10 : decode cX11_refused 10 = .ok (.goto 4, 3) := by decide +kernel
theorem dX11_refused_13 : decode cX11_refused 13 = .ok (.iconst 0, 1) := by decide +kernel
theorem dX11_refused_14 : decode cX11_refused 14 = .ok (.ireturn, 1) := by decide +kernel
theorem dX11_within_0 : decode cX11_within 0 = .ok (.lload_n 0, 1) := by decide +kernel
theorem dX11_within_1 : decode cX11_within 1 = .ok (.lload_n 2, 1) := by decide +kernel
theorem dX11_within_2 : decode cX11_within 2 = .ok (.lcmp, 1) := by decide +kernel
theorem dX11_within_3 : decode cX11_within 3 = .ok (.ifCond .lt 14, 3) := by decide +kernel
theorem dX11_within_6 : decode cX11_within 6 = .ok (.lload_n 0, 1) := by decide +kernel
theorem dX11_within_7 : decode cX11_within 7 = .ok (.lload 4, 2) := by decide +kernel
theorem dX11_within_9 : decode cX11_within 9 = .ok (.lcmp, 1) := by decide +kernel
theorem dX11_within_10 : decode cX11_within 10 = .ok (.ifCond .gt 7, 3) := by decide +kernel
theorem dX11_within_13 : decode cX11_within 13 = .ok (.iconst 1, 1) := by decide +kernel
theorem dX11_within_14 : decode cX11_within 14 = .ok (.goto 4, 3) := by decide +kernel
theorem dX11_within_17 : decode cX11_within 17 = .ok (.iconst 0, 1) := by decide +kernel
theorem dX11_within_18 : decode cX11_within 18 = .ok (.ireturn, 1) := by decide +kernel
theorem dX11_isChannel_0 : decode cX11_isChannel 0 = .ok (.iload_n 0, 1) := by decide +kernel
theorem dX11_isChannel_1 : decode cX11_isChannel 1 = .ok (.i2l, 1) := by decide +kernel
theorem dX11_isChannel_2 : decode cX11_isChannel 2 = .ok (.lconst 0, 1) := by decide +kernel
theorem dX11_isChannel_3 : decode cX11_isChannel 3 = .ok (.ldc2_w 21, 3) := by decide +kernel
theorem dX11_isChannel_6 : decode cX11_isChannel 6 = .ok (.invokestatic 23, 3) := by decide +kernel
theorem dX11_isChannel_9 : decode cX11_isChannel 9 = .ok (.ireturn, 1) := by decide +kernel
theorem dX11_floor_0 : decode cX11_floor 0 = .ok (.lload_n 0, 1) := by decide +kernel
theorem dX11_floor_1 : decode cX11_floor 1 = .ok (.lload_n 2, 1) := by decide +kernel
theorem dX11_floor_2 : decode cX11_floor 2 = .ok (.ldiv, 1) := by decide +kernel
theorem dX11_floor_3 : decode cX11_floor 3 = .ok (.lstore 4, 2) := by decide +kernel
theorem dX11_floor_5 : decode cX11_floor 5 = .ok (.lload 4, 2) := by decide +kernel
theorem dX11_floor_7 : decode cX11_floor 7 = .ok (.lload_n 2, 1) := by decide +kernel
theorem dX11_floor_8 : decode cX11_floor 8 = .ok (.lmul, 1) := by decide +kernel
theorem dX11_floor_9 : decode cX11_floor 9 = .ok (.lload_n 0, 1) := by decide +kernel
theorem dX11_floor_10 : decode cX11_floor 10 = .ok (.lcmp, 1) := by decide +kernel
theorem dX11_floor_11 : decode cX11_floor 11 = .ok (.ifCond .eq 35, 3) := by decide +kernel
theorem dX11_floor_14 : decode cX11_floor 14 = .ok (.lload_n 0, 1) := by decide +kernel
theorem dX11_floor_15 : decode cX11_floor 15 = .ok (.lconst 0, 1) := by decide +kernel
theorem dX11_floor_16 : decode cX11_floor 16 = .ok (.lcmp, 1) := by decide +kernel
theorem dX11_floor_17 : decode cX11_floor 17 = .ok (.ifCond .ge 7, 3) := by decide +kernel
theorem dX11_floor_20 : decode cX11_floor 20 = .ok (.iconst 1, 1) := by decide +kernel
theorem dX11_floor_21 : decode cX11_floor 21 = .ok (.goto 4, 3) := by decide +kernel
theorem dX11_floor_24 : decode cX11_floor 24 = .ok (.iconst 0, 1) := by decide +kernel
theorem dX11_floor_25 : decode cX11_floor 25 = .ok (.lload_n 2, 1) := by decide +kernel
theorem dX11_floor_26 : decode cX11_floor 26 = .ok (.lconst 0, 1) := by decide +kernel
theorem dX11_floor_27 : decode cX11_floor 27 = .ok (.lcmp, 1) := by decide +kernel
theorem dX11_floor_28 : decode cX11_floor 28 = .ok (.ifCond .ge 7, 3) := by decide +kernel
theorem dX11_floor_31 : decode cX11_floor 31 = .ok (.iconst 1, 1) := by decide +kernel
theorem dX11_floor_32 : decode cX11_floor 32 = .ok (.goto 4, 3) := by decide +kernel
theorem dX11_floor_35 : decode cX11_floor 35 = .ok (.iconst 0, 1) := by decide +kernel
theorem dX11_floor_36 : decode cX11_floor 36 = .ok (.if_icmp .eq 10, 3) := by decide +kernel
theorem dX11_floor_39 : decode cX11_floor 39 = .ok (.lload 4, 2) := by decide +kernel
theorem dX11_floor_41 : decode cX11_floor 41 = .ok (.lconst 1, 1) := by decide +kernel
theorem dX11_floor_42 : decode cX11_floor 42 = .ok (.lsub, 1) := by decide +kernel
theorem dX11_floor_43 : decode cX11_floor 43 = .ok (.goto 5, 3) := by decide +kernel
theorem dX11_floor_46 : decode cX11_floor 46 = .ok (.lload 4, 2) := by decide +kernel
theorem dX11_floor_48 : decode cX11_floor 48 = .ok (.lreturn, 1) := by decide +kernel
theorem dX11_saves_0 : decode cX11_saves 0 = .ok (.aload_n 0, 1) := by decide +kernel
theorem dX11_saves_1 : decode cX11_saves 1 = .ok (.getfield 27, 3) := by decide +kernel
theorem dX11_saves_4 : decode cX11_saves 4 = .ok (.iconst 3, 1) := by decide +kernel
theorem dX11_saves_5 : decode cX11_saves 5 = .ok (.if_icmp .ne 44, 3) := by decide +kernel
theorem dX11_saves_8 : decode cX11_saves 8 = .ok (.iconst 0, 1) := by decide +kernel
theorem dX11_saves_9 : decode cX11_saves 9 = .ok (.istore_n 1, 1) := by decide +kernel
theorem dX11_saves_10 : decode cX11_saves 10 = .ok (.iload_n 1, 1) := by decide +kernel
theorem dX11_saves_11 : decode cX11_saves 11 = .ok (.sipush 24618, 3) := by decide +kernel
theorem dX11_saves_14 : decode cX11_saves 14 = .ok (.if_icmp .ge 25, 3) := by decide +kernel
theorem dX11_saves_17 : decode cX11_saves 17 = .ok (.aload_n 0, 1) := by decide +kernel
theorem dX11_saves_18 : decode cX11_saves 18 = .ok (.getfield 14, 3) := by decide +kernel
theorem dX11_saves_21 : decode cX11_saves 21 = .ok (.iload_n 1, 1) := by decide +kernel
theorem dX11_saves_22 : decode cX11_saves 22 = .ok (.aload_n 0, 1) := by decide +kernel
theorem dX11_saves_23 : decode cX11_saves 23 = .ok (.getfield 14, 3) := by decide +kernel
theorem dX11_saves_26 : decode cX11_saves 26 = .ok (.iload_n 1, 1) := by decide +kernel
theorem dX11_saves_27 : decode cX11_saves 27 = .ok (.sipush 12309, 3) := by decide +kernel
theorem dX11_saves_30 : decode cX11_saves 30 = .ok (.iadd, 1) := by decide +kernel
theorem dX11_saves_31 : decode cX11_saves 31 = .ok (.iaload, 1) := by decide +kernel
theorem dX11_saves_32 : decode cX11_saves 32 = .ok (.iastore, 1) := by decide +kernel
theorem dX11_saves_33 : decode cX11_saves 33 = .ok (.iinc 1 1, 3) := by decide +kernel
theorem dX11_saves_36 : decode cX11_saves 36 = .ok (.goto (-26), 3) := by decide +kernel
theorem dX11_saves_39 : decode cX11_saves 39 = .ok (.aload_n 0, 1) := by decide +kernel
theorem dX11_saves_40 : decode cX11_saves 40 = .ok (.dup, 1) := by decide +kernel
theorem dX11_saves_41 : decode cX11_saves 41 = .ok (.getfield 27, 3) := by decide +kernel
theorem dX11_saves_44 : decode cX11_saves 44 = .ok (.iconst 1, 1) := by decide +kernel
theorem dX11_saves_45 : decode cX11_saves 45 = .ok (.isub, 1) := by decide +kernel
theorem dX11_saves_46 : decode cX11_saves 46 = .ok (.putfield 27, 3) := by decide +kernel
theorem dX11_saves_49 : decode cX11_saves 49 = .ok (.iconst 0, 1) := by decide +kernel
theorem dX11_saves_50 : decode cX11_saves 50 = .ok (.istore_n 1, 1) := by decide +kernel
theorem dX11_saves_51 : decode cX11_saves 51 = .ok (.iload_n 1, 1) := by decide +kernel
theorem dX11_saves_52 : decode cX11_saves 52 = .ok (.sipush 12309, 3) := by decide +kernel
theorem dX11_saves_55 : decode cX11_saves 55 = .ok (.if_icmp .ge 30, 3) := by decide +kernel
theorem dX11_saves_58 : decode cX11_saves 58 = .ok (.aload_n 0, 1) := by decide +kernel
theorem dX11_saves_59 : decode cX11_saves 59 = .ok (.getfield 14, 3) := by decide +kernel
theorem dX11_saves_62 : decode cX11_saves 62 = .ok (.sipush 12309, 3) := by decide +kernel
theorem dX11_saves_65 : decode cX11_saves 65 = .ok (.aload_n 0, 1) := by decide +kernel
theorem dX11_saves_66 : decode cX11_saves 66 = .ok (.getfield 27, 3) := by decide +kernel
theorem dX11_saves_69 : decode cX11_saves 69 = .ok (.imul, 1) := by decide +kernel
theorem dX11_saves_70 : decode cX11_saves 70 = .ok (.iload_n 1, 1) := by decide +kernel
theorem dX11_saves_71 : decode cX11_saves 71 = .ok (.iadd, 1) := by decide +kernel
theorem dX11_saves_72 : decode cX11_saves 72 = .ok (.aload_n 0, 1) := by decide +kernel
theorem dX11_saves_73 : decode cX11_saves 73 = .ok (.getfield 7, 3) := by decide +kernel
theorem dX11_saves_76 : decode cX11_saves 76 = .ok (.iload_n 1, 1) := by decide +kernel
theorem dX11_saves_77 : decode cX11_saves 77 = .ok (.iaload, 1) := by decide +kernel
theorem dX11_saves_78 : decode cX11_saves 78 = .ok (.iastore, 1) := by decide +kernel
theorem dX11_saves_79 : decode cX11_saves 79 = .ok (.iinc 1 1, 3) := by decide +kernel
theorem dX11_saves_82 : decode cX11_saves 82 = .ok (.goto (-31), 3) := by decide +kernel
theorem dX11_saves_85 : decode cX11_saves 85 = .ok (.aload_n 0, 1) := by decide +kernel
theorem dX11_saves_86 : decode cX11_saves 86 = .ok (.dup, 1) := by decide +kernel
theorem dX11_saves_87 : decode cX11_saves 87 = .ok (.getfield 27, 3) := by decide +kernel
theorem dX11_saves_90 : decode cX11_saves 90 = .ok (.iconst 1, 1) := by decide +kernel
theorem dX11_saves_91 : decode cX11_saves 91 = .ok (.iadd, 1) := by decide +kernel
theorem dX11_saves_92 : decode cX11_saves 92 = .ok (.putfield 27, 3) := by decide +kernel
theorem dX11_saves_95 : decode cX11_saves 95 = .ok (.return_, 1) := by decide +kernel
theorem dX11_undo_0 : decode cX11_undo 0 = .ok (.aload_n 0, 1) := by decide +kernel
theorem dX11_undo_1 : decode cX11_undo 1 = .ok (.aload_n 0, 1) := by decide +kernel
theorem dX11_undo_2 : decode cX11_undo 2 = .ok (.getfield 27, 3) := by decide +kernel
theorem dX11_undo_5 : decode cX11_undo 5 = .ok (.ifCond .ne 7, 3) := by decide +kernel
theorem dX11_undo_8 : decode cX11_undo 8 = .ok (.iconst 1, 1) := by decide +kernel
theorem dX11_undo_9 : decode cX11_undo 9 = .ok (.goto 4, 3) := by decide +kernel
theorem dX11_undo_12 : decode cX11_undo 12 = .ok (.iconst 0, 1) := by decide +kernel
theorem dX11_undo_13 : decode cX11_undo 13 = .ok (.invokevirtual 30, 3) := by decide +kernel
theorem dX11_undo_16 : decode cX11_undo 16 = .ok (.ifCond .eq 5, 3) := by decide +kernel
theorem dX11_undo_19 : decode cX11_undo 19 = .ok (.iconst 0, 1) := by decide +kernel
theorem dX11_undo_20 : decode cX11_undo 20 = .ok (.ireturn, 1) := by decide +kernel
theorem dX11_undo_21 : decode cX11_undo 21 = .ok (.aload_n 0, 1) := by decide +kernel
theorem dX11_undo_22 : decode cX11_undo 22 = .ok (.dup, 1) := by decide +kernel
theorem dX11_undo_23 : decode cX11_undo 23 = .ok (.getfield 27, 3) := by decide +kernel
theorem dX11_undo_26 : decode cX11_undo 26 = .ok (.iconst 1, 1) := by decide +kernel
theorem dX11_undo_27 : decode cX11_undo 27 = .ok (.isub, 1) := by decide +kernel
theorem dX11_undo_28 : decode cX11_undo 28 = .ok (.putfield 27, 3) := by decide +kernel
theorem dX11_undo_31 : decode cX11_undo 31 = .ok (.iconst 0, 1) := by decide +kernel
theorem dX11_undo_32 : decode cX11_undo 32 = .ok (.istore_n 1, 1) := by decide +kernel
theorem dX11_undo_33 : decode cX11_undo 33 = .ok (.iload_n 1, 1) := by decide +kernel
theorem dX11_undo_34 : decode cX11_undo 34 = .ok (.sipush 12309, 3) := by decide +kernel
theorem dX11_undo_37 : decode cX11_undo 37 = .ok (.if_icmp .ge 30, 3) := by decide +kernel
theorem dX11_undo_40 : decode cX11_undo 40 = .ok (.aload_n 0, 1) := by decide +kernel
theorem dX11_undo_41 : decode cX11_undo 41 = .ok (.getfield 7, 3) := by decide +kernel
theorem dX11_undo_44 : decode cX11_undo 44 = .ok (.iload_n 1, 1) := by decide +kernel
theorem dX11_undo_45 : decode cX11_undo 45 = .ok (.aload_n 0, 1) := by decide +kernel
theorem dX11_undo_46 : decode cX11_undo 46 = .ok (.getfield 14, 3) := by decide +kernel
theorem dX11_undo_49 : decode cX11_undo 49 = .ok (.sipush 12309, 3) := by decide +kernel
theorem dX11_undo_52 : decode cX11_undo 52 = .ok (.aload_n 0, 1) := by decide +kernel
theorem dX11_undo_53 : decode cX11_undo 53 = .ok (.getfield 27, 3) := by decide +kernel
theorem dX11_undo_56 : decode cX11_undo 56 = .ok (.imul, 1) := by decide +kernel
theorem dX11_undo_57 : decode cX11_undo 57 = .ok (.iload_n 1, 1) := by decide +kernel
theorem dX11_undo_58 : decode cX11_undo 58 = .ok (.iadd, 1) := by decide +kernel
theorem dX11_undo_59 : decode cX11_undo 59 = .ok (.iaload, 1) := by decide +kernel
theorem dX11_undo_60 : decode cX11_undo 60 = .ok (.iastore, 1) := by decide +kernel
theorem dX11_undo_61 : decode cX11_undo 61 = .ok (.iinc 1 1, 3) := by decide +kernel
theorem dX11_undo_64 : decode cX11_undo 64 = .ok (.goto (-31), 3) := by decide +kernel
theorem dX11_undo_67 : decode cX11_undo 67 = .ok (.aload_n 0, 1) := by decide +kernel
theorem dX11_undo_68 : decode cX11_undo 68 = .ok (.getfield 27, 3) := by decide +kernel
theorem dX11_undo_71 : decode cX11_undo 71 = .ok (.ireturn, 1) := by decide +kernel
theorem dX11_at_0 : decode cX11_at 0 = .ok (.bipush 62, 2) := by decide +kernel
theorem dX11_at_2 : decode cX11_at 2 = .ok (.bipush 80, 2) := by decide +kernel
theorem dX11_at_4 : decode cX11_at 4 = .ok (.iload_n 0, 1) := by decide +kernel
theorem dX11_at_5 : decode cX11_at 5 = .ok (.imul, 1) := by decide +kernel
theorem dX11_at_6 : decode cX11_at 6 = .ok (.iadd, 1) := by decide +kernel
theorem dX11_at_7 : decode cX11_at 7 = .ok (.iconst 5, 1) := by decide +kernel
theorem dX11_at_8 : decode cX11_at 8 = .ok (.iload_n 1, 1) := by decide +kernel
theorem dX11_at_9 : decode cX11_at 9 = .ok (.imul, 1) := by decide +kernel
theorem dX11_at_10 : decode cX11_at 10 = .ok (.iadd, 1) := by decide +kernel
theorem dX11_at_11 : decode cX11_at 11 = .ok (.ireturn, 1) := by decide +kernel
theorem dX11_pending_0 : decode cX11_pending 0 = .ok (.aload_n 0, 1) := by decide +kernel
theorem dX11_pending_1 : decode cX11_pending 1 = .ok (.getfield 7, 3) := by decide +kernel
theorem dX11_pending_4 : decode cX11_pending 4 = .ok (.bipush 58, 2) := by decide +kernel
theorem dX11_pending_6 : decode cX11_pending 6 = .ok (.iload_n 1, 1) := by decide +kernel
theorem dX11_pending_7 : decode cX11_pending 7 = .ok (.iadd, 1) := by decide +kernel
theorem dX11_pending_8 : decode cX11_pending 8 = .ok (.iaload, 1) := by decide +kernel
theorem dX11_pending_9 : decode cX11_pending 9 = .ok (.ineg, 1) := by decide +kernel
theorem dX11_pending_10 : decode cX11_pending 10 = .ok (.istore_n 2, 1) := by decide +kernel
theorem dX11_pending_11 : decode cX11_pending 11 = .ok (.iconst 0, 1) := by decide +kernel
theorem dX11_pending_12 : decode cX11_pending 12 = .ok (.istore_n 3, 1) := by decide +kernel
theorem dX11_pending_13 : decode cX11_pending 13 = .ok (.iload_n 3, 1) := by decide +kernel
theorem dX11_pending_14 : decode cX11_pending 14 = .ok (.aload_n 0, 1) := by decide +kernel
theorem dX11_pending_15 : decode cX11_pending 15 = .ok (.getfield 7, 3) := by decide +kernel
theorem dX11_pending_18 : decode cX11_pending 18 = .ok (.bipush 54, 2) := by decide +kernel
theorem dX11_pending_20 : decode cX11_pending 20 = .ok (.iload_n 1, 1) := by decide +kernel
theorem dX11_pending_21 : decode cX11_pending 21 = .ok (.iadd, 1) := by decide +kernel
theorem dX11_pending_22 : decode cX11_pending 22 = .ok (.iaload, 1) := by decide +kernel
theorem dX11_pending_23 : decode cX11_pending 23 = .ok (.if_icmp .ge 26, 3) := by decide +kernel
theorem dX11_pending_26 : decode cX11_pending 26 = .ok (.iload_n 2, 1) := by decide +kernel
theorem dX11_pending_27 : decode cX11_pending 27 = .ok (.iconst 3, 1) := by decide +kernel
theorem dX11_pending_28 : decode cX11_pending 28 = .ok (.aload_n 0, 1) := by decide +kernel
theorem dX11_pending_29 : decode cX11_pending 29 = .ok (.getfield 7, 3) := by decide +kernel
theorem dX11_pending_32 : decode cX11_pending 32 = .ok (.iload_n 1, 1) := by decide +kernel
theorem dX11_pending_33 : decode cX11_pending 33 = .ok (.iload_n 3, 1) := by decide +kernel
theorem dX11_pending_34 : decode cX11_pending 34 = .ok (.invokestatic 34, 3) := by decide +kernel
theorem dX11_pending_37 : decode cX11_pending 37 = .ok (.iconst 2, 1) := by decide +kernel
theorem dX11_pending_38 : decode cX11_pending 38 = .ok (.iadd, 1) := by decide +kernel
theorem dX11_pending_39 : decode cX11_pending 39 = .ok (.iaload, 1) := by decide +kernel
theorem dX11_pending_40 : decode cX11_pending 40 = .ok (.iadd, 1) := by decide +kernel
theorem dX11_pending_41 : decode cX11_pending 41 = .ok (.iadd, 1) := by decide +kernel
theorem dX11_pending_42 : decode cX11_pending 42 = .ok (.istore_n 2, 1) := by decide +kernel
theorem dX11_pending_43 : decode cX11_pending 43 = .ok (.iinc 3 1, 3) := by decide +kernel
theorem dX11_pending_46 : decode cX11_pending 46 = .ok (.goto (-33), 3) := by decide +kernel
theorem dX11_pending_49 : decode cX11_pending 49 = .ok (.iload_n 2, 1) := by decide +kernel
theorem dX11_pending_50 : decode cX11_pending 50 = .ok (.ireturn, 1) := by decide +kernel
theorem dX11_packetsIn_0 : decode cX11_packetsIn 0 = .ok (.iconst 0, 1) := by decide +kernel
theorem dX11_packetsIn_1 : decode cX11_packetsIn 1 = .ok (.istore_n 2, 1) := by decide +kernel
theorem dX11_packetsIn_2 : decode cX11_packetsIn 2 = .ok (.iconst 0, 1) := by decide +kernel
theorem dX11_packetsIn_3 : decode cX11_packetsIn 3 = .ok (.istore_n 3, 1) := by decide +kernel
theorem dX11_packetsIn_4 : decode cX11_packetsIn 4 = .ok (.iload_n 3, 1) := by decide +kernel
theorem dX11_packetsIn_5 : decode cX11_packetsIn 5 = .ok (.aload_n 0, 1) := by decide +kernel
theorem dX11_packetsIn_6 : decode cX11_packetsIn 6 = .ok (.getfield 7, 3) := by decide +kernel
theorem dX11_packetsIn_9 : decode cX11_packetsIn 9 = .ok (.bipush 54, 2) := by decide +kernel
theorem dX11_packetsIn_11 : decode cX11_packetsIn 11 = .ok (.iload_n 1, 1) := by decide +kernel
theorem dX11_packetsIn_12 : decode cX11_packetsIn 12 = .ok (.iadd, 1) := by decide +kernel
theorem dX11_packetsIn_13 : decode cX11_packetsIn 13 = .ok (.iaload, 1) := by decide +kernel
theorem dX11_packetsIn_14 : decode cX11_packetsIn 14 = .ok (.if_icmp .ge 32, 3) := by decide +kernel
theorem dX11_packetsIn_17 : decode cX11_packetsIn 17 = .ok (.iload_n 2, 1) := by decide +kernel
theorem dX11_packetsIn_18 : decode cX11_packetsIn 18 = .ok (.aload_n 0, 1) := by decide +kernel
theorem dX11_packetsIn_19 : decode cX11_packetsIn 19 = .ok (.getfield 7, 3) := by decide +kernel
theorem dX11_packetsIn_22 : decode cX11_packetsIn 22 = .ok (.iload_n 1, 1) := by decide +kernel
theorem dX11_packetsIn_23 : decode cX11_packetsIn 23 = .ok (.iload_n 3, 1) := by decide +kernel
theorem dX11_packetsIn_24 : decode cX11_packetsIn 24 = .ok (.invokestatic 34, 3) := by decide +kernel
theorem dX11_packetsIn_27 : decode cX11_packetsIn 27 = .ok (.iaload, 1) := by decide +kernel
theorem dX11_packetsIn_28 : decode cX11_packetsIn 28 = .ok (.bipush 15, 2) := by decide +kernel
theorem dX11_packetsIn_30 : decode cX11_packetsIn 30 = .ok (.if_icmp .ge 7, 3) := by decide +kernel
theorem dX11_packetsIn_33 : decode cX11_packetsIn 33 = .ok (.iconst 1, 1) := by decide +kernel
theorem dX11_packetsIn_34 : decode cX11_packetsIn 34 = .ok (.goto 4, 3) := by decide +kernel
theorem dX11_packetsIn_37 : decode cX11_packetsIn 37 = .ok (.iconst 0, 1) := by decide +kernel
theorem dX11_packetsIn_38 : decode cX11_packetsIn 38 = .ok (.iadd, 1) := by decide +kernel
theorem dX11_packetsIn_39 : decode cX11_packetsIn 39 = .ok (.istore_n 2, 1) := by decide +kernel
theorem dX11_packetsIn_40 : decode cX11_packetsIn 40 = .ok (.iinc 3 1, 3) := by decide +kernel
theorem dX11_packetsIn_43 : decode cX11_packetsIn 43 = .ok (.goto (-39), 3) := by decide +kernel
theorem dX11_packetsIn_46 : decode cX11_packetsIn 46 = .ok (.iload_n 2, 1) := by decide +kernel
theorem dX11_packetsIn_47 : decode cX11_packetsIn 47 = .ok (.ireturn, 1) := by decide +kernel
theorem dX11_puts_0 : decode cX11_puts 0 = .ok (.iload_n 1, 1) := by decide +kernel
theorem dX11_puts_1 : decode cX11_puts 1 = .ok (.aload_n 0, 1) := by decide +kernel
theorem dX11_puts_2 : decode cX11_puts 2 = .ok (.getfield 7, 3) := by decide +kernel
theorem dX11_puts_5 : decode cX11_puts 5 = .ok (.bipush 54, 2) := by decide +kernel
theorem dX11_puts_7 : decode cX11_puts 7 = .ok (.iload_n 1, 1) := by decide +kernel
theorem dX11_puts_8 : decode cX11_puts 8 = .ok (.iadd, 1) := by decide +kernel
theorem dX11_puts_9 : decode cX11_puts 9 = .ok (.iaload, 1) := by decide +kernel
theorem dX11_puts_10 : decode cX11_puts 10 = .ok (.invokestatic 34, 3) := by decide +kernel
theorem dX11_puts_13 : decode cX11_puts 13 = .ok (.istore 6, 2) := by decide +kernel
theorem dX11_puts_15 : decode cX11_puts 15 = .ok (.aload_n 0, 1) := by decide +kernel
theorem dX11_puts_16 : decode cX11_puts 16 = .ok (.getfield 7, 3) := by decide +kernel
theorem dX11_puts_19 : decode cX11_puts 19 = .ok (.iload 6, 2) := by decide +kernel
theorem dX11_puts_21 : decode cX11_puts 21 = .ok (.iload_n 2, 1) := by decide +kernel
theorem dX11_puts_22 : decode cX11_puts 22 = .ok (.iastore, 1) := by decide +kernel
theorem dX11_puts_23 : decode cX11_puts 23 = .ok (.aload_n 0, 1) := by decide +kernel
theorem dX11_puts_24 : decode cX11_puts 24 = .ok (.getfield 7, 3) := by decide +kernel
theorem dX11_puts_27 : decode cX11_puts 27 = .ok (.iload 6, 2) := by decide +kernel
theorem dX11_puts_29 : decode cX11_puts 29 = .ok (.iconst 1, 1) := by decide +kernel
theorem dX11_puts_30 : decode cX11_puts 30 = .ok (.iadd, 1) := by decide +kernel
theorem dX11_puts_31 : decode cX11_puts 31 = .ok (.iload_n 3, 1) := by decide +kernel
theorem dX11_puts_32 : decode cX11_puts 32 = .ok (.iastore, 1) := by decide +kernel
theorem dX11_puts_33 : decode cX11_puts 33 = .ok (.aload_n 0, 1) := by decide +kernel
theorem dX11_puts_34 : decode cX11_puts 34 = .ok (.getfield 7, 3) := by decide +kernel
theorem dX11_puts_37 : decode cX11_puts 37 = .ok (.iload 6, 2) := by decide +kernel
theorem dX11_puts_39 : decode cX11_puts 39 = .ok (.iconst 2, 1) := by decide +kernel
theorem dX11_puts_40 : decode cX11_puts 40 = .ok (.iadd, 1) := by decide +kernel
theorem dX11_puts_41 : decode cX11_puts 41 = .ok (.iload 4, 2) := by decide +kernel
theorem dX11_puts_43 : decode cX11_puts 43 = .ok (.iastore, 1) := by decide +kernel
theorem dX11_puts_44 : decode cX11_puts 44 = .ok (.aload_n 0, 1) := by decide +kernel
theorem dX11_puts_45 : decode cX11_puts 45 = .ok (.getfield 7, 3) := by decide +kernel
theorem dX11_puts_48 : decode cX11_puts 48 = .ok (.iload 6, 2) := by decide +kernel
theorem dX11_puts_50 : decode cX11_puts 50 = .ok (.iconst 3, 1) := by decide +kernel
theorem dX11_puts_51 : decode cX11_puts 51 = .ok (.iadd, 1) := by decide +kernel
theorem dX11_puts_52 : decode cX11_puts 52 = .ok (.iload 5, 2) := by decide +kernel
theorem dX11_puts_54 : decode cX11_puts 54 = .ok (.iastore, 1) := by decide +kernel
theorem dX11_puts_55 : decode cX11_puts 55 = .ok (.aload_n 0, 1) := by decide +kernel
theorem dX11_puts_56 : decode cX11_puts 56 = .ok (.getfield 7, 3) := by decide +kernel
theorem dX11_puts_59 : decode cX11_puts 59 = .ok (.iload 6, 2) := by decide +kernel
theorem dX11_puts_61 : decode cX11_puts 61 = .ok (.iconst 4, 1) := by decide +kernel
theorem dX11_puts_62 : decode cX11_puts 62 = .ok (.iadd, 1) := by decide +kernel
theorem dX11_puts_63 : decode cX11_puts 63 = .ok (.aload_n 0, 1) := by decide +kernel
theorem dX11_puts_64 : decode cX11_puts 64 = .ok (.getfield 7, 3) := by decide +kernel
theorem dX11_puts_67 : decode cX11_puts 67 = .ok (.iconst 3, 1) := by decide +kernel
theorem dX11_puts_68 : decode cX11_puts 68 = .ok (.iaload, 1) := by decide +kernel
theorem dX11_puts_69 : decode cX11_puts 69 = .ok (.iastore, 1) := by decide +kernel
theorem dX11_puts_70 : decode cX11_puts 70 = .ok (.aload_n 0, 1) := by decide +kernel
theorem dX11_puts_71 : decode cX11_puts 71 = .ok (.getfield 7, 3) := by decide +kernel
theorem dX11_puts_74 : decode cX11_puts 74 = .ok (.bipush 54, 2) := by decide +kernel
theorem dX11_puts_76 : decode cX11_puts 76 = .ok (.iload_n 1, 1) := by decide +kernel
theorem dX11_puts_77 : decode cX11_puts 77 = .ok (.iadd, 1) := by decide +kernel
theorem dX11_puts_78 : decode cX11_puts 78 = .ok (.dup2, 1) := by decide +kernel
theorem dX11_puts_79 : decode cX11_puts 79 = .ok (.iaload, 1) := by decide +kernel
theorem dX11_puts_80 : decode cX11_puts 80 = .ok (.iconst 1, 1) := by decide +kernel
theorem dX11_puts_81 : decode cX11_puts 81 = .ok (.iadd, 1) := by decide +kernel
theorem dX11_puts_82 : decode cX11_puts 82 = .ok (.iastore, 1) := by decide +kernel
theorem dX11_puts_83 : decode cX11_puts 83 = .ok (.return_, 1) := by decide +kernel
theorem dX11_byteOf_0 : decode cX11_byteOf 0 = .ok (.iload_n 1, 1) := by decide +kernel
theorem dX11_byteOf_1 : decode cX11_byteOf 1 = .ok (.iconst 0, 1) := by decide +kernel
theorem dX11_byteOf_2 : decode cX11_byteOf 2 = .ok (.invokestatic 34, 3) := by decide +kernel
theorem dX11_byteOf_5 : decode cX11_byteOf 5 = .ok (.istore_n 3, 1) := by decide +kernel
theorem dX11_byteOf_6 : decode cX11_byteOf 6 = .ok (.iload_n 2, 1) := by decide +kernel
theorem dX11_byteOf_7 : decode cX11_byteOf 7 = .ok (.iconst 3, 1) := by decide +kernel
theorem dX11_byteOf_8 : decode cX11_byteOf 8 = .ok (.if_icmp .ge 12, 3) := by decide +kernel
theorem dX11_byteOf_11 : decode cX11_byteOf 11 = .ok (.aload_n 0, 1) := by decide +kernel
theorem dX11_byteOf_12 : decode cX11_byteOf 12 = .ok (.getfield 7, 3) := by decide +kernel
theorem dX11_byteOf_15 : decode cX11_byteOf 15 = .ok (.iload_n 3, 1) := by decide +kernel
theorem dX11_byteOf_16 : decode cX11_byteOf 16 = .ok (.iload_n 2, 1) := by decide +kernel
theorem dX11_byteOf_17 : decode cX11_byteOf 17 = .ok (.iadd, 1) := by decide +kernel
theorem dX11_byteOf_18 : decode cX11_byteOf 18 = .ok (.iaload, 1) := by decide +kernel
theorem dX11_byteOf_19 : decode cX11_byteOf 19 = .ok (.ireturn, 1) := by decide +kernel
theorem dX11_byteOf_20 : decode cX11_byteOf 20 = .ok (.aload_n 0, 1) := by decide +kernel
theorem dX11_byteOf_21 : decode cX11_byteOf 21 = .ok (.getfield 7, 3) := by decide +kernel
theorem dX11_byteOf_24 : decode cX11_byteOf 24 = .ok (.iload_n 3, 1) := by decide +kernel
theorem dX11_byteOf_25 : decode cX11_byteOf 25 = .ok (.iaload, 1) := by decide +kernel
theorem dX11_byteOf_26 : decode cX11_byteOf 26 = .ok (.bipush 15, 2) := by decide +kernel
theorem dX11_byteOf_28 : decode cX11_byteOf 28 = .ok (.if_icmp .ne 9, 3) := by decide +kernel
theorem dX11_byteOf_31 : decode cX11_byteOf 31 = .ok (.sipush 170, 3) := by decide +kernel
theorem dX11_byteOf_34 : decode cX11_byteOf 34 = .ok (.goto 22, 3) := by decide +kernel
theorem dX11_byteOf_37 : decode cX11_byteOf 37 = .ok (.aload_n 0, 1) := by decide +kernel
theorem dX11_byteOf_38 : decode cX11_byteOf 38 = .ok (.getfield 7, 3) := by decide +kernel
theorem dX11_byteOf_41 : decode cX11_byteOf 41 = .ok (.iload_n 3, 1) := by decide +kernel
theorem dX11_byteOf_42 : decode cX11_byteOf 42 = .ok (.iconst 3, 1) := by decide +kernel
theorem dX11_byteOf_43 : decode cX11_byteOf 43 = .ok (.iadd, 1) := by decide +kernel
theorem dX11_byteOf_44 : decode cX11_byteOf 44 = .ok (.iaload, 1) := by decide +kernel
theorem dX11_byteOf_45 : decode cX11_byteOf 45 = .ok (.bipush 7, 2) := by decide +kernel
theorem dX11_byteOf_47 : decode cX11_byteOf 47 = .ok (.iload_n 2, 1) := by decide +kernel
theorem dX11_byteOf_48 : decode cX11_byteOf 48 = .ok (.iconst 3, 1) := by decide +kernel
theorem dX11_byteOf_49 : decode cX11_byteOf 49 = .ok (.isub, 1) := by decide +kernel
theorem dX11_byteOf_50 : decode cX11_byteOf 50 = .ok (.imul, 1) := by decide +kernel
theorem dX11_byteOf_51 : decode cX11_byteOf 51 = .ok (.iadd, 1) := by decide +kernel
theorem dX11_byteOf_52 : decode cX11_byteOf 52 = .ok (.sipush 256, 3) := by decide +kernel
theorem dX11_byteOf_55 : decode cX11_byteOf 55 = .ok (.irem, 1) := by decide +kernel
theorem dX11_byteOf_56 : decode cX11_byteOf 56 = .ok (.ireturn, 1) := by decide +kernel
theorem dX11_takes_0 : decode cX11_takes 0 = .ok (.aload_n 0, 1) := by decide +kernel
theorem dX11_takes_1 : decode cX11_takes 1 = .ok (.getfield 7, 3) := by decide +kernel
theorem dX11_takes_4 : decode cX11_takes 4 = .ok (.bipush 58, 2) := by decide +kernel
theorem dX11_takes_6 : decode cX11_takes 6 = .ok (.iload_n 1, 1) := by decide +kernel
theorem dX11_takes_7 : decode cX11_takes 7 = .ok (.iadd, 1) := by decide +kernel
theorem dX11_takes_8 : decode cX11_takes 8 = .ok (.iaload, 1) := by decide +kernel
theorem dX11_takes_9 : decode cX11_takes 9 = .ok (.istore_n 2, 1) := by decide +kernel
theorem dX11_takes_10 : decode cX11_takes 10 = .ok (.aload_n 0, 1) := by decide +kernel
theorem dX11_takes_11 : decode cX11_takes 11 = .ok (.iload_n 1, 1) := by decide +kernel
theorem dX11_takes_12 : decode cX11_takes 12 = .ok (.iload_n 2, 1) := by decide +kernel
theorem dX11_takes_13 : decode cX11_takes 13 = .ok (.invokevirtual 38, 3) := by decide +kernel
theorem dX11_takes_16 : decode cX11_takes 16 = .ok (.istore_n 3, 1) := by decide +kernel
theorem dX11_takes_17 : decode cX11_takes 17 = .ok (.aload_n 0, 1) := by decide +kernel
theorem dX11_takes_18 : decode cX11_takes 18 = .ok (.getfield 7, 3) := by decide +kernel
theorem dX11_takes_21 : decode cX11_takes 21 = .ok (.iload_n 1, 1) := by decide +kernel
theorem dX11_takes_22 : decode cX11_takes 22 = .ok (.iconst 0, 1) := by decide +kernel
theorem dX11_takes_23 : decode cX11_takes 23 = .ok (.invokestatic 34, 3) := by decide +kernel
theorem dX11_takes_26 : decode cX11_takes 26 = .ok (.iaload, 1) := by decide +kernel
theorem dX11_takes_27 : decode cX11_takes 27 = .ok (.bipush 15, 2) := by decide +kernel
theorem dX11_takes_29 : decode cX11_takes 29 = .ok (.if_icmp .ne 7, 3) := by decide +kernel
theorem dX11_takes_32 : decode cX11_takes 32 = .ok (.iconst 1, 1) := by decide +kernel
theorem dX11_takes_33 : decode cX11_takes 33 = .ok (.goto 4, 3) := by decide +kernel
theorem dX11_takes_36 : decode cX11_takes 36 = .ok (.iconst 0, 1) := by decide +kernel
theorem dX11_takes_37 : decode cX11_takes 37 = .ok (.istore 4, 2) := by decide +kernel
theorem dX11_takes_39 : decode cX11_takes 39 = .ok (.aload_n 0, 1) := by decide +kernel
theorem dX11_takes_40 : decode cX11_takes 40 = .ok (.getfield 7, 3) := by decide +kernel
theorem dX11_takes_43 : decode cX11_takes 43 = .ok (.bipush 46, 2) := by decide +kernel
theorem dX11_takes_45 : decode cX11_takes 45 = .ok (.iload_n 1, 1) := by decide +kernel
theorem dX11_takes_46 : decode cX11_takes 46 = .ok (.iadd, 1) := by decide +kernel
theorem dX11_takes_47 : decode cX11_takes 47 = .ok (.dup2, 1) := by decide +kernel
theorem dX11_takes_48 : decode cX11_takes 48 = .ok (.iaload, 1) := by decide +kernel
theorem dX11_takes_49 : decode cX11_takes 49 = .ok (.iload 4, 2) := by decide +kernel
theorem dX11_takes_51 : decode cX11_takes 51 = .ok (.ifCond .eq 7, 3) := by decide +kernel
theorem dX11_takes_54 : decode cX11_takes 54 = .ok (.iconst 1, 1) := by decide +kernel
theorem dX11_takes_55 : decode cX11_takes 55 = .ok (.goto 4, 3) := by decide +kernel
theorem dX11_takes_58 : decode cX11_takes 58 = .ok (.iconst 0, 1) := by decide +kernel
theorem dX11_takes_59 : decode cX11_takes 59 = .ok (.iadd, 1) := by decide +kernel
theorem dX11_takes_60 : decode cX11_takes 60 = .ok (.iastore, 1) := by decide +kernel
theorem dX11_takes_61 : decode cX11_takes 61 = .ok (.aload_n 0, 1) := by decide +kernel
theorem dX11_takes_62 : decode cX11_takes 62 = .ok (.getfield 7, 3) := by decide +kernel
theorem dX11_takes_65 : decode cX11_takes 65 = .ok (.bipush 58, 2) := by decide +kernel
theorem dX11_takes_67 : decode cX11_takes 67 = .ok (.iload_n 1, 1) := by decide +kernel
theorem dX11_takes_68 : decode cX11_takes 68 = .ok (.iadd, 1) := by decide +kernel
theorem dX11_takes_69 : decode cX11_takes 69 = .ok (.dup2, 1) := by decide +kernel
theorem dX11_takes_70 : decode cX11_takes 70 = .ok (.iaload, 1) := by decide +kernel
theorem dX11_takes_71 : decode cX11_takes 71 = .ok (.iconst 1, 1) := by decide +kernel
theorem dX11_takes_72 : decode cX11_takes 72 = .ok (.iadd, 1) := by decide +kernel
theorem dX11_takes_73 : decode cX11_takes 73 = .ok (.iastore, 1) := by decide +kernel
theorem dX11_takes_74 : decode cX11_takes 74 = .ok (.aload_n 0, 1) := by decide +kernel
theorem dX11_takes_75 : decode cX11_takes 75 = .ok (.getfield 7, 3) := by decide +kernel
theorem dX11_takes_78 : decode cX11_takes 78 = .ok (.bipush 58, 2) := by decide +kernel
theorem dX11_takes_80 : decode cX11_takes 80 = .ok (.iload_n 1, 1) := by decide +kernel
theorem dX11_takes_81 : decode cX11_takes 81 = .ok (.iadd, 1) := by decide +kernel
theorem dX11_takes_82 : decode cX11_takes 82 = .ok (.iaload, 1) := by decide +kernel
theorem dX11_takes_83 : decode cX11_takes 83 = .ok (.iconst 3, 1) := by decide +kernel
theorem dX11_takes_84 : decode cX11_takes 84 = .ok (.aload_n 0, 1) := by decide +kernel
theorem dX11_takes_85 : decode cX11_takes 85 = .ok (.getfield 7, 3) := by decide +kernel
theorem dX11_takes_88 : decode cX11_takes 88 = .ok (.iload_n 1, 1) := by decide +kernel
theorem dX11_takes_89 : decode cX11_takes 89 = .ok (.iconst 0, 1) := by decide +kernel
theorem dX11_takes_90 : decode cX11_takes 90 = .ok (.invokestatic 34, 3) := by decide +kernel
theorem dX11_takes_93 : decode cX11_takes 93 = .ok (.iconst 2, 1) := by decide +kernel
theorem dX11_takes_94 : decode cX11_takes 94 = .ok (.iadd, 1) := by decide +kernel
theorem dX11_takes_95 : decode cX11_takes 95 = .ok (.iaload, 1) := by decide +kernel
theorem dX11_takes_96 : decode cX11_takes 96 = .ok (.iadd, 1) := by decide +kernel
theorem dX11_takes_97 : decode cX11_takes 97 = .ok (.if_icmp .ne 136, 3) := by decide +kernel
theorem dX11_takes_100 : decode cX11_takes 100 = .ok (.aload_n 0, 1) := by decide +kernel
theorem dX11_takes_101 : decode cX11_takes 101 = .ok (.getfield 7, 3) := by decide +kernel
theorem dX11_takes_104 : decode cX11_takes 104 = .ok (.iconst 3, 1) := by decide +kernel
theorem dX11_takes_105 : decode cX11_takes 105 = .ok (.iaload, 1) := by decide +kernel
theorem dX11_takes_106 : decode cX11_takes 106 = .ok (.aload_n 0, 1) := by decide +kernel
theorem dX11_takes_107 : decode cX11_takes 107 = .ok (.getfield 7, 3) := by decide +kernel
theorem dX11_takes_110 : decode cX11_takes 110 = .ok (.iload_n 1, 1) := by decide +kernel
theorem dX11_takes_111 : decode cX11_takes 111 = .ok (.iconst 0, 1) := by decide +kernel
theorem dX11_takes_112 : decode cX11_takes 112 = .ok (.invokestatic 34, 3) := by decide +kernel
theorem dX11_takes_115 : decode cX11_takes 115 = .ok (.iconst 4, 1) := by decide +kernel
theorem dX11_takes_116 : decode cX11_takes 116 = .ok (.iadd, 1) := by decide +kernel
theorem dX11_takes_117 : decode cX11_takes 117 = .ok (.iaload, 1) := by decide +kernel
theorem dX11_takes_118 : decode cX11_takes 118 = .ok (.isub, 1) := by decide +kernel
theorem dX11_takes_119 : decode cX11_takes 119 = .ok (.istore 5, 2) := by decide +kernel
theorem dX11_takes_121 : decode cX11_takes 121 = .ok (.aload_n 0, 1) := by decide +kernel
theorem dX11_takes_122 : decode cX11_takes 122 = .ok (.getfield 7, 3) := by decide +kernel
theorem dX11_takes_125 : decode cX11_takes 125 = .ok (.bipush 50, 2) := by decide +kernel
theorem dX11_takes_127 : decode cX11_takes 127 = .ok (.iload_n 1, 1) := by decide +kernel
theorem dX11_takes_128 : decode cX11_takes 128 = .ok (.iadd, 1) := by decide +kernel
theorem dX11_takes_129 : decode cX11_takes 129 = .ok (.iload 4, 2) := by decide +kernel
theorem dX11_takes_131 : decode cX11_takes 131 = .ok (.ifCond .ne 22, 3) := by decide +kernel
theorem dX11_takes_134 : decode cX11_takes 134 = .ok (.iload 5, 2) := by decide +kernel
theorem dX11_takes_136 : decode cX11_takes 136 = .ok (.aload_n 0, 1) := by decide +kernel
theorem dX11_takes_137 : decode cX11_takes 137 = .ok (.getfield 7, 3) := by decide +kernel
theorem dX11_takes_140 : decode cX11_takes 140 = .ok (.bipush 50, 2) := by decide +kernel
theorem dX11_takes_142 : decode cX11_takes 142 = .ok (.iload_n 1, 1) := by decide +kernel
theorem dX11_takes_143 : decode cX11_takes 143 = .ok (.iadd, 1) := by decide +kernel
theorem dX11_takes_144 : decode cX11_takes 144 = .ok (.iaload, 1) := by decide +kernel
theorem dX11_takes_145 : decode cX11_takes 145 = .ok (.if_icmp .le 8, 3) := by decide +kernel
theorem dX11_takes_148 : decode cX11_takes 148 = .ok (.iload 5, 2) := by decide +kernel
theorem dX11_takes_150 : decode cX11_takes 150 = .ok (.goto 12, 3) := by decide +kernel
theorem dX11_takes_153 : decode cX11_takes 153 = .ok (.aload_n 0, 1) := by decide +kernel
theorem dX11_takes_154 : decode cX11_takes 154 = .ok (.getfield 7, 3) := by decide +kernel
theorem dX11_takes_157 : decode cX11_takes 157 = .ok (.bipush 50, 2) := by decide +kernel
theorem dX11_takes_159 : decode cX11_takes 159 = .ok (.iload_n 1, 1) := by decide +kernel
theorem dX11_takes_160 : decode cX11_takes 160 = .ok (.iadd, 1) := by decide +kernel
theorem dX11_takes_161 : decode cX11_takes 161 = .ok (.iaload, 1) := by decide +kernel
theorem dX11_takes_162 : decode cX11_takes 162 = .ok (.iastore, 1) := by decide +kernel
theorem dX11_takes_163 : decode cX11_takes 163 = .ok (.aload_n 0, 1) := by decide +kernel
theorem dX11_takes_164 : decode cX11_takes 164 = .ok (.getfield 7, 3) := by decide +kernel
theorem dX11_takes_167 : decode cX11_takes 167 = .ok (.bipush 58, 2) := by decide +kernel
theorem dX11_takes_169 : decode cX11_takes 169 = .ok (.iload_n 1, 1) := by decide +kernel
theorem dX11_takes_170 : decode cX11_takes 170 = .ok (.iadd, 1) := by decide +kernel
theorem dX11_takes_171 : decode cX11_takes 171 = .ok (.iconst 0, 1) := by decide +kernel
theorem dX11_takes_172 : decode cX11_takes 172 = .ok (.iastore, 1) := by decide +kernel
theorem dX11_takes_173 : decode cX11_takes 173 = .ok (.aload_n 0, 1) := by decide +kernel
theorem dX11_takes_174 : decode cX11_takes 174 = .ok (.getfield 7, 3) := by decide +kernel
theorem dX11_takes_177 : decode cX11_takes 177 = .ok (.bipush 54, 2) := by decide +kernel
theorem dX11_takes_179 : decode cX11_takes 179 = .ok (.iload_n 1, 1) := by decide +kernel
theorem dX11_takes_180 : decode cX11_takes 180 = .ok (.iadd, 1) := by decide +kernel
theorem dX11_takes_181 : decode cX11_takes 181 = .ok (.dup2, 1) := by decide +kernel
theorem dX11_takes_182 : decode cX11_takes 182 = .ok (.iaload, 1) := by decide +kernel
theorem dX11_takes_183 : decode cX11_takes 183 = .ok (.iconst 1, 1) := by decide +kernel
theorem dX11_takes_184 : decode cX11_takes 184 = .ok (.isub, 1) := by decide +kernel
theorem dX11_takes_185 : decode cX11_takes 185 = .ok (.iastore, 1) := by decide +kernel
theorem dX11_takes_186 : decode cX11_takes 186 = .ok (.iload_n 1, 1) := by decide +kernel
theorem dX11_takes_187 : decode cX11_takes 187 = .ok (.iconst 0, 1) := by decide +kernel
theorem dX11_takes_188 : decode cX11_takes 188 = .ok (.invokestatic 34, 3) := by decide +kernel
theorem dX11_takes_191 : decode cX11_takes 191 = .ok (.istore 6, 2) := by decide +kernel
theorem dX11_takes_193 : decode cX11_takes 193 = .ok (.iload 6, 2) := by decide +kernel
theorem dX11_takes_195 : decode cX11_takes 195 = .ok (.iload_n 1, 1) := by decide +kernel
theorem dX11_takes_196 : decode cX11_takes 196 = .ok (.aload_n 0, 1) := by decide +kernel
theorem dX11_takes_197 : decode cX11_takes 197 = .ok (.getfield 7, 3) := by decide +kernel
theorem dX11_takes_200 : decode cX11_takes 200 = .ok (.bipush 54, 2) := by decide +kernel
theorem dX11_takes_202 : decode cX11_takes 202 = .ok (.iload_n 1, 1) := by decide +kernel
theorem dX11_takes_203 : decode cX11_takes 203 = .ok (.iadd, 1) := by decide +kernel
theorem dX11_takes_204 : decode cX11_takes 204 = .ok (.iaload, 1) := by decide +kernel
theorem dX11_takes_205 : decode cX11_takes 205 = .ok (.invokestatic 34, 3) := by decide +kernel
theorem dX11_takes_208 : decode cX11_takes 208 = .ok (.if_icmp .ge 25, 3) := by decide +kernel
theorem dX11_takes_211 : decode cX11_takes 211 = .ok (.aload_n 0, 1) := by decide +kernel
theorem dX11_takes_212 : decode cX11_takes 212 = .ok (.getfield 7, 3) := by decide +kernel
theorem dX11_takes_215 : decode cX11_takes 215 = .ok (.iload 6, 2) := by decide +kernel
theorem dX11_takes_217 : decode cX11_takes 217 = .ok (.aload_n 0, 1) := by decide +kernel
theorem dX11_takes_218 : decode cX11_takes 218 = .ok (.getfield 7, 3) := by decide +kernel
theorem dX11_takes_221 : decode cX11_takes 221 = .ok (.iload 6, 2) := by decide +kernel
theorem dX11_takes_223 : decode cX11_takes 223 = .ok (.iconst 5, 1) := by decide +kernel
theorem dX11_takes_224 : decode cX11_takes 224 = .ok (.iadd, 1) := by decide +kernel
theorem dX11_takes_225 : decode cX11_takes 225 = .ok (.iaload, 1) := by decide +kernel
theorem dX11_takes_226 : decode cX11_takes 226 = .ok (.iastore, 1) := by decide +kernel
theorem dX11_takes_227 : decode cX11_takes 227 = .ok (.iinc 6 1, 3) := by decide +kernel
theorem dX11_takes_230 : decode cX11_takes 230 = .ok (.goto (-37), 3) := by decide +kernel
theorem dX11_takes_233 : decode cX11_takes 233 = .ok (.iload_n 3, 1) := by decide +kernel
theorem dX11_takes_234 : decode cX11_takes 234 = .ok (.ireturn, 1) := by decide +kernel
theorem dX11_setFrameLength_0 : decode cX11_setFrameLength 0 = .ok (.aload_n 0, 1) := by decide +kernel
theorem dX11_setFrameLength_1 : decode cX11_setFrameLength 1 = .ok (.iconst 0, 1) := by decide +kernel
theorem dX11_setFrameLength_2 : decode cX11_setFrameLength 2 = .ok (.invokevirtual 41, 3) := by decide +kernel
theorem dX11_setFrameLength_5 : decode cX11_setFrameLength 5 = .ok (.aload_n 0, 1) := by decide +kernel
theorem dX11_setFrameLength_6 : decode cX11_setFrameLength 6 = .ok (.iconst 1, 1) := by decide +kernel
theorem dX11_setFrameLength_7 : decode cX11_setFrameLength 7 = .ok (.invokevirtual 41, 3) := by decide +kernel
theorem dX11_setFrameLength_10 : decode cX11_setFrameLength 10 = .ok (.iadd, 1) := by decide +kernel
theorem dX11_setFrameLength_11 : decode cX11_setFrameLength 11 = .ok (.aload_n 0, 1) := by decide +kernel
theorem dX11_setFrameLength_12 : decode cX11_setFrameLength 12 = .ok (.iconst 2, 1) := by decide +kernel
theorem dX11_setFrameLength_13 : decode cX11_setFrameLength 13 = .ok (.invokevirtual 41, 3) := by decide +kernel
theorem dX11_setFrameLength_16 : decode cX11_setFrameLength 16 = .ok (.iadd, 1) := by decide +kernel
theorem dX11_setFrameLength_17 : decode cX11_setFrameLength 17 = .ok (.aload_n 0, 1) := by decide +kernel
theorem dX11_setFrameLength_18 : decode cX11_setFrameLength 18 = .ok (.iconst 3, 1) := by decide +kernel
theorem dX11_setFrameLength_19 : decode cX11_setFrameLength 19 = .ok (.invokevirtual 41, 3) := by decide +kernel
theorem dX11_setFrameLength_22 : decode cX11_setFrameLength 22 = .ok (.iadd, 1) := by decide +kernel
theorem dX11_setFrameLength_23 : decode cX11_setFrameLength 23 = .ok (.istore_n 2, 1) := by decide +kernel
theorem dX11_setFrameLength_24 : decode cX11_setFrameLength 24 = .ok (.aload_n 0, 1) := by decide +kernel
theorem dX11_setFrameLength_25 : decode cX11_setFrameLength 25 = .ok (.iload_n 1, 1) := by decide +kernel
theorem dX11_setFrameLength_26 : decode cX11_setFrameLength 26 = .ok (.i2l, 1) := by decide +kernel
theorem dX11_setFrameLength_27 : decode cX11_setFrameLength 27 = .ok (.ldc2_w 45, 3) := by decide +kernel
theorem dX11_setFrameLength_30 : decode cX11_setFrameLength 30 = .ok (.ldc2_w 47, 3) := by decide +kernel
theorem dX11_setFrameLength_33 : decode cX11_setFrameLength 33 = .ok (.invokestatic 23, 3) := by decide +kernel
theorem dX11_setFrameLength_36 : decode cX11_setFrameLength 36 = .ok (.ifCond .ne 7, 3) := by decide +kernel
theorem dX11_setFrameLength_39 : decode cX11_setFrameLength 39 = .ok (.iconst 1, 1) := by decide +kernel
theorem dX11_setFrameLength_40 : decode cX11_setFrameLength 40 = .ok (.goto 12, 3) := by decide +kernel
theorem dX11_setFrameLength_43 : decode cX11_setFrameLength 43 = .ok (.iload_n 2, 1) := by decide +kernel
theorem dX11_setFrameLength_44 : decode cX11_setFrameLength 44 = .ok (.ifCond .le 7, 3) := by decide +kernel
theorem dX11_setFrameLength_47 : decode cX11_setFrameLength 47 = .ok (.iconst 2, 1) := by decide +kernel
theorem dX11_setFrameLength_48 : decode cX11_setFrameLength 48 = .ok (.goto 4, 3) := by decide +kernel
theorem dX11_setFrameLength_51 : decode cX11_setFrameLength 51 = .ok (.iconst 0, 1) := by decide +kernel
theorem dX11_setFrameLength_52 : decode cX11_setFrameLength 52 = .ok (.invokevirtual 30, 3) := by decide +kernel
theorem dX11_setFrameLength_55 : decode cX11_setFrameLength 55 = .ok (.ifCond .eq 5, 3) := by decide +kernel
theorem dX11_setFrameLength_58 : decode cX11_setFrameLength 58 = .ok (.iconst 0, 1) := by decide +kernel
theorem dX11_setFrameLength_59 : decode cX11_setFrameLength 59 = .ok (.ireturn, 1) := by decide +kernel
theorem dX11_setFrameLength_60 : decode cX11_setFrameLength 60 = .ok (.aload_n 0, 1) := by decide +kernel
theorem dX11_setFrameLength_61 : decode cX11_setFrameLength 61 = .ok (.invokevirtual 49, 3) := by decide +kernel
theorem dX11_setFrameLength_64 : decode cX11_setFrameLength 64 = .ok (.aload_n 0, 1) := by decide +kernel
theorem dX11_setFrameLength_65 : decode cX11_setFrameLength 65 = .ok (.getfield 7, 3) := by decide +kernel
theorem dX11_setFrameLength_68 : decode cX11_setFrameLength 68 = .ok (.iconst 0, 1) := by decide +kernel
theorem dX11_setFrameLength_69 : decode cX11_setFrameLength 69 = .ok (.iaload, 1) := by decide +kernel
theorem dX11_setFrameLength_70 : decode cX11_setFrameLength 70 = .ok (.istore_n 3, 1) := by decide +kernel
theorem dX11_setFrameLength_71 : decode cX11_setFrameLength 71 = .ok (.aload_n 0, 1) := by decide +kernel
theorem dX11_setFrameLength_72 : decode cX11_setFrameLength 72 = .ok (.getfield 7, 3) := by decide +kernel
theorem dX11_setFrameLength_75 : decode cX11_setFrameLength 75 = .ok (.iconst 0, 1) := by decide +kernel
theorem dX11_setFrameLength_76 : decode cX11_setFrameLength 76 = .ok (.iload_n 1, 1) := by decide +kernel
theorem dX11_setFrameLength_77 : decode cX11_setFrameLength 77 = .ok (.iastore, 1) := by decide +kernel
theorem dX11_setFrameLength_78 : decode cX11_setFrameLength 78 = .ok (.iload_n 3, 1) := by decide +kernel
theorem dX11_setFrameLength_79 : decode cX11_setFrameLength 79 = .ok (.ireturn, 1) := by decide +kernel
theorem dX11_setChannel_0 : decode cX11_setChannel 0 = .ok (.aload_n 0, 1) := by decide +kernel
theorem dX11_setChannel_1 : decode cX11_setChannel 1 = .ok (.iload_n 1, 1) := by decide +kernel
theorem dX11_setChannel_2 : decode cX11_setChannel 2 = .ok (.invokestatic 52, 3) := by decide +kernel
theorem dX11_setChannel_5 : decode cX11_setChannel 5 = .ok (.ifCond .ne 7, 3) := by decide +kernel
theorem dX11_setChannel_8 : decode cX11_setChannel 8 = .ok (.iconst 1, 1) := by decide +kernel
theorem dX11_setChannel_9 : decode cX11_setChannel 9 = .ok (.goto 45, 3) := by decide +kernel
theorem dX11_setChannel_12 : decode cX11_setChannel 12 = .ok (.iload_n 2, 1) := by decide +kernel
theorem dX11_setChannel_13 : decode cX11_setChannel 13 = .ok (.i2l, 1) := by decide +kernel
theorem dX11_setChannel_14 : decode cX11_setChannel 14 = .ok (.lconst 0, 1) := by decide +kernel
theorem dX11_setChannel_15 : decode cX11_setChannel 15 = .ok (.ldc2_w 55, 3) := by decide +kernel
theorem dX11_setChannel_18 : decode cX11_setChannel 18 = .ok (.invokestatic 23, 3) := by decide +kernel
theorem dX11_setChannel_21 : decode cX11_setChannel 21 = .ok (.ifCond .eq 32, 3) := by decide +kernel
theorem dX11_setChannel_24 : decode cX11_setChannel 24 = .ok (.iload_n 3, 1) := by decide +kernel
theorem dX11_setChannel_25 : decode cX11_setChannel 25 = .ok (.i2l, 1) := by decide +kernel
theorem dX11_setChannel_26 : decode cX11_setChannel 26 = .ok (.lconst 0, 1) := by decide +kernel
theorem dX11_setChannel_27 : decode cX11_setChannel 27 = .ok (.ldc2_w 57, 3) := by decide +kernel
theorem dX11_setChannel_30 : decode cX11_setChannel 30 = .ok (.invokestatic 23, 3) := by decide +kernel
theorem dX11_setChannel_33 : decode cX11_setChannel 33 = .ok (.ifCond .eq 20, 3) := by decide +kernel
theorem dX11_setChannel_36 : decode cX11_setChannel 36 = .ok (.iload 4, 2) := by decide +kernel
theorem dX11_setChannel_38 : decode cX11_setChannel 38 = .ok (.i2l, 1) := by decide +kernel
theorem dX11_setChannel_39 : decode cX11_setChannel 39 = .ok (.lconst 0, 1) := by decide +kernel
theorem dX11_setChannel_40 : decode cX11_setChannel 40 = .ok (.ldc2_w 57, 3) := by decide +kernel
theorem dX11_setChannel_43 : decode cX11_setChannel 43 = .ok (.invokestatic 23, 3) := by decide +kernel
theorem dX11_setChannel_46 : decode cX11_setChannel 46 = .ok (.ifCond .eq 7, 3) := by decide +kernel
theorem dX11_setChannel_49 : decode cX11_setChannel 49 = .ok (.iconst 0, 1) := by decide +kernel
theorem dX11_setChannel_50 : decode cX11_setChannel 50 = .ok (.goto 4, 3) := by decide +kernel
theorem dX11_setChannel_53 : decode cX11_setChannel 53 = .ok (.iconst 2, 1) := by decide +kernel
theorem dX11_setChannel_54 : decode cX11_setChannel 54 = .ok (.invokevirtual 30, 3) := by decide +kernel
theorem dX11_setChannel_57 : decode cX11_setChannel 57 = .ok (.ifCond .eq 5, 3) := by decide +kernel
theorem dX11_setChannel_60 : decode cX11_setChannel 60 = .ok (.iconst 0, 1) := by decide +kernel
theorem dX11_setChannel_61 : decode cX11_setChannel 61 = .ok (.ireturn, 1) := by decide +kernel
theorem dX11_setChannel_62 : decode cX11_setChannel 62 = .ok (.aload_n 0, 1) := by decide +kernel
theorem dX11_setChannel_63 : decode cX11_setChannel 63 = .ok (.invokevirtual 49, 3) := by decide +kernel
theorem dX11_setChannel_66 : decode cX11_setChannel 66 = .ok (.aload_n 0, 1) := by decide +kernel
theorem dX11_setChannel_67 : decode cX11_setChannel 67 = .ok (.getfield 7, 3) := by decide +kernel
theorem dX11_setChannel_70 : decode cX11_setChannel 70 = .ok (.bipush 25, 2) := by decide +kernel
theorem dX11_setChannel_72 : decode cX11_setChannel 72 = .ok (.iload_n 1, 1) := by decide +kernel
theorem dX11_setChannel_73 : decode cX11_setChannel 73 = .ok (.iadd, 1) := by decide +kernel
theorem dX11_setChannel_74 : decode cX11_setChannel 74 = .ok (.iaload, 1) := by decide +kernel
theorem dX11_setChannel_75 : decode cX11_setChannel 75 = .ok (.istore 5, 2) := by decide +kernel
theorem dX11_setChannel_77 : decode cX11_setChannel 77 = .ok (.aload_n 0, 1) := by decide +kernel
theorem dX11_setChannel_78 : decode cX11_setChannel 78 = .ok (.getfield 7, 3) := by decide +kernel
theorem dX11_setChannel_81 : decode cX11_setChannel 81 = .ok (.bipush 25, 2) := by decide +kernel
theorem dX11_setChannel_83 : decode cX11_setChannel 83 = .ok (.iload_n 1, 1) := by decide +kernel
theorem dX11_setChannel_84 : decode cX11_setChannel 84 = .ok (.iadd, 1) := by decide +kernel
theorem dX11_setChannel_85 : decode cX11_setChannel 85 = .ok (.iload_n 2, 1) := by decide +kernel
theorem dX11_setChannel_86 : decode cX11_setChannel 86 = .ok (.iastore, 1) := by decide +kernel
theorem dX11_setChannel_87 : decode cX11_setChannel 87 = .ok (.aload_n 0, 1) := by decide +kernel
theorem dX11_setChannel_88 : decode cX11_setChannel 88 = .ok (.getfield 7, 3) := by decide +kernel
theorem dX11_setChannel_91 : decode cX11_setChannel 91 = .ok (.bipush 29, 2) := by decide +kernel
theorem dX11_setChannel_93 : decode cX11_setChannel 93 = .ok (.iload_n 1, 1) := by decide +kernel
theorem dX11_setChannel_94 : decode cX11_setChannel 94 = .ok (.iadd, 1) := by decide +kernel
theorem dX11_setChannel_95 : decode cX11_setChannel 95 = .ok (.iload_n 3, 1) := by decide +kernel
theorem dX11_setChannel_96 : decode cX11_setChannel 96 = .ok (.iastore, 1) := by decide +kernel
theorem dX11_setChannel_97 : decode cX11_setChannel 97 = .ok (.aload_n 0, 1) := by decide +kernel
theorem dX11_setChannel_98 : decode cX11_setChannel 98 = .ok (.getfield 7, 3) := by decide +kernel
theorem dX11_setChannel_101 : decode cX11_setChannel 101 = .ok (.bipush 33, 2) := by decide +kernel
theorem dX11_setChannel_103 : decode cX11_setChannel 103 = .ok (.iload_n 1, 1) := by decide +kernel
theorem dX11_setChannel_104 : decode cX11_setChannel 104 = .ok (.iadd, 1) := by decide +kernel
theorem dX11_setChannel_105 : decode cX11_setChannel 105 = .ok (.iload 4, 2) := by decide +kernel
theorem dX11_setChannel_107 : decode cX11_setChannel 107 = .ok (.iastore, 1) := by decide +kernel
theorem dX11_setChannel_108 : decode cX11_setChannel 108 = .ok (.iload 5, 2) := by decide +kernel
theorem dX11_setChannel_110 : decode cX11_setChannel 110 = .ok (.ireturn, 1) := by decide +kernel
theorem dX11_setClock_0 : decode cX11_setClock 0 = .ok (.aload_n 0, 1) := by decide +kernel
theorem dX11_setClock_1 : decode cX11_setClock 1 = .ok (.iload_n 1, 1) := by decide +kernel
theorem dX11_setClock_2 : decode cX11_setClock 2 = .ok (.i2l, 1) := by decide +kernel
theorem dX11_setClock_3 : decode cX11_setClock 3 = .ok (.ldc2_w 59, 3) := by decide +kernel
theorem dX11_setClock_6 : decode cX11_setClock 6 = .ok (.ldc2_w 61, 3) := by decide +kernel
theorem dX11_setClock_9 : decode cX11_setClock 9 = .ok (.invokestatic 23, 3) := by decide +kernel
theorem dX11_setClock_12 : decode cX11_setClock 12 = .ok (.ifCond .eq 19, 3) := by decide +kernel
theorem dX11_setClock_15 : decode cX11_setClock 15 = .ok (.iload_n 2, 1) := by decide +kernel
theorem dX11_setClock_16 : decode cX11_setClock 16 = .ok (.i2l, 1) := by decide +kernel
theorem dX11_setClock_17 : decode cX11_setClock 17 = .ok (.lconst 0, 1) := by decide +kernel
theorem dX11_setClock_18 : decode cX11_setClock 18 = .ok (.ldc2_w 63, 3) := by decide +kernel
theorem dX11_setClock_21 : decode cX11_setClock 21 = .ok (.invokestatic 23, 3) := by decide +kernel
theorem dX11_setClock_24 : decode cX11_setClock 24 = .ok (.ifCond .eq 7, 3) := by decide +kernel
theorem dX11_setClock_27 : decode cX11_setClock 27 = .ok (.iconst 0, 1) := by decide +kernel
theorem dX11_setClock_28 : decode cX11_setClock 28 = .ok (.goto 4, 3) := by decide +kernel
theorem dX11_setClock_31 : decode cX11_setClock 31 = .ok (.iconst 1, 1) := by decide +kernel
theorem dX11_setClock_32 : decode cX11_setClock 32 = .ok (.invokevirtual 30, 3) := by decide +kernel
theorem dX11_setClock_35 : decode cX11_setClock 35 = .ok (.ifCond .eq 5, 3) := by decide +kernel
theorem dX11_setClock_38 : decode cX11_setClock 38 = .ok (.iconst 0, 1) := by decide +kernel
theorem dX11_setClock_39 : decode cX11_setClock 39 = .ok (.ireturn, 1) := by decide +kernel
theorem dX11_setClock_40 : decode cX11_setClock 40 = .ok (.aload_n 0, 1) := by decide +kernel
theorem dX11_setClock_41 : decode cX11_setClock 41 = .ok (.invokevirtual 49, 3) := by decide +kernel
theorem dX11_setClock_44 : decode cX11_setClock 44 = .ok (.aload_n 0, 1) := by decide +kernel
theorem dX11_setClock_45 : decode cX11_setClock 45 = .ok (.getfield 7, 3) := by decide +kernel
theorem dX11_setClock_48 : decode cX11_setClock 48 = .ok (.iconst 1, 1) := by decide +kernel
theorem dX11_setClock_49 : decode cX11_setClock 49 = .ok (.iaload, 1) := by decide +kernel
theorem dX11_setClock_50 : decode cX11_setClock 50 = .ok (.istore_n 3, 1) := by decide +kernel
theorem dX11_setClock_51 : decode cX11_setClock 51 = .ok (.aload_n 0, 1) := by decide +kernel
theorem dX11_setClock_52 : decode cX11_setClock 52 = .ok (.getfield 7, 3) := by decide +kernel
theorem dX11_setClock_55 : decode cX11_setClock 55 = .ok (.iconst 1, 1) := by decide +kernel
theorem dX11_setClock_56 : decode cX11_setClock 56 = .ok (.iload_n 1, 1) := by decide +kernel
theorem dX11_setClock_57 : decode cX11_setClock 57 = .ok (.iastore, 1) := by decide +kernel
theorem dX11_setClock_58 : decode cX11_setClock 58 = .ok (.aload_n 0, 1) := by decide +kernel
theorem dX11_setClock_59 : decode cX11_setClock 59 = .ok (.getfield 7, 3) := by decide +kernel
theorem dX11_setClock_62 : decode cX11_setClock 62 = .ok (.iconst 2, 1) := by decide +kernel
theorem dX11_setClock_63 : decode cX11_setClock 63 = .ok (.iload_n 2, 1) := by decide +kernel
theorem dX11_setClock_64 : decode cX11_setClock 64 = .ok (.iastore, 1) := by decide +kernel
theorem dX11_setClock_65 : decode cX11_setClock 65 = .ok (.iload_n 3, 1) := by decide +kernel
theorem dX11_setClock_66 : decode cX11_setClock 66 = .ok (.ireturn, 1) := by decide +kernel
theorem dX11_addPacket_0 : decode cX11_addPacket 0 = .ok (.iload_n 2, 1) := by decide +kernel
theorem dX11_addPacket_1 : decode cX11_addPacket 1 = .ok (.i2l, 1) := by decide +kernel
theorem dX11_addPacket_2 : decode cX11_addPacket 2 = .ok (.lconst 0, 1) := by decide +kernel
theorem dX11_addPacket_3 : decode cX11_addPacket 3 = .ok (.ldc2_w 65, 3) := by decide +kernel
theorem dX11_addPacket_6 : decode cX11_addPacket 6 = .ok (.invokestatic 23, 3) := by decide +kernel
theorem dX11_addPacket_9 : decode cX11_addPacket 9 = .ok (.ifCond .eq 32, 3) := by decide +kernel
theorem dX11_addPacket_12 : decode cX11_addPacket 12 = .ok (.iload_n 3, 1) := by decide +kernel
theorem dX11_addPacket_13 : decode cX11_addPacket 13 = .ok (.i2l, 1) := by decide +kernel
theorem dX11_addPacket_14 : decode cX11_addPacket 14 = .ok (.lconst 1, 1) := by decide +kernel
theorem dX11_addPacket_15 : decode cX11_addPacket 15 = .ok (.ldc2_w 57, 3) := by decide +kernel
theorem dX11_addPacket_18 : decode cX11_addPacket 18 = .ok (.invokestatic 23, 3) := by decide +kernel
theorem dX11_addPacket_21 : decode cX11_addPacket 21 = .ok (.ifCond .eq 20, 3) := by decide +kernel
theorem dX11_addPacket_24 : decode cX11_addPacket 24 = .ok (.iload 4, 2) := by decide +kernel
theorem dX11_addPacket_26 : decode cX11_addPacket 26 = .ok (.i2l, 1) := by decide +kernel
theorem dX11_addPacket_27 : decode cX11_addPacket 27 = .ok (.lconst 0, 1) := by decide +kernel
theorem dX11_addPacket_28 : decode cX11_addPacket 28 = .ok (.ldc2_w 67, 3) := by decide +kernel
theorem dX11_addPacket_31 : decode cX11_addPacket 31 = .ok (.invokestatic 23, 3) := by decide +kernel
theorem dX11_addPacket_34 : decode cX11_addPacket 34 = .ok (.ifCond .eq 7, 3) := by decide +kernel
theorem dX11_addPacket_37 : decode cX11_addPacket 37 = .ok (.iconst 1, 1) := by decide +kernel
theorem dX11_addPacket_38 : decode cX11_addPacket 38 = .ok (.goto 4, 3) := by decide +kernel
theorem dX11_addPacket_41 : decode cX11_addPacket 41 = .ok (.iconst 0, 1) := by decide +kernel
theorem dX11_addPacket_42 : decode cX11_addPacket 42 = .ok (.istore 5, 2) := by decide +kernel
theorem dX11_addPacket_44 : decode cX11_addPacket 44 = .ok (.aload_n 0, 1) := by decide +kernel
theorem dX11_addPacket_45 : decode cX11_addPacket 45 = .ok (.iload_n 1, 1) := by decide +kernel
theorem dX11_addPacket_46 : decode cX11_addPacket 46 = .ok (.invokestatic 52, 3) := by decide +kernel
theorem dX11_addPacket_49 : decode cX11_addPacket 49 = .ok (.ifCond .ne 7, 3) := by decide +kernel
theorem dX11_addPacket_52 : decode cX11_addPacket 52 = .ok (.iconst 1, 1) := by decide +kernel
theorem dX11_addPacket_53 : decode cX11_addPacket 53 = .ok (.goto 27, 3) := by decide +kernel
theorem dX11_addPacket_56 : decode cX11_addPacket 56 = .ok (.iload 5, 2) := by decide +kernel
theorem dX11_addPacket_58 : decode cX11_addPacket 58 = .ok (.ifCond .ne 7, 3) := by decide +kernel
theorem dX11_addPacket_61 : decode cX11_addPacket 61 = .ok (.iconst 2, 1) := by decide +kernel
theorem dX11_addPacket_62 : decode cX11_addPacket 62 = .ok (.goto 18, 3) := by decide +kernel
theorem dX11_addPacket_65 : decode cX11_addPacket 65 = .ok (.aload_n 0, 1) := by decide +kernel
theorem dX11_addPacket_66 : decode cX11_addPacket 66 = .ok (.iload_n 1, 1) := by decide +kernel
theorem dX11_addPacket_67 : decode cX11_addPacket 67 = .ok (.invokevirtual 69, 3) := by decide +kernel
theorem dX11_addPacket_70 : decode cX11_addPacket 70 = .ok (.bipush 12, 2) := by decide +kernel
theorem dX11_addPacket_72 : decode cX11_addPacket 72 = .ok (.if_icmp .ne 7, 3) := by decide +kernel
theorem dX11_addPacket_75 : decode cX11_addPacket 75 = .ok (.iconst 3, 1) := by decide +kernel
theorem dX11_addPacket_76 : decode cX11_addPacket 76 = .ok (.goto 4, 3) := by decide +kernel
theorem dX11_addPacket_79 : decode cX11_addPacket 79 = .ok (.iconst 0, 1) := by decide +kernel
theorem dX11_addPacket_80 : decode cX11_addPacket 80 = .ok (.invokevirtual 30, 3) := by decide +kernel
theorem dX11_addPacket_83 : decode cX11_addPacket 83 = .ok (.ifCond .eq 5, 3) := by decide +kernel
theorem dX11_addPacket_86 : decode cX11_addPacket 86 = .ok (.iconst 0, 1) := by decide +kernel
theorem dX11_addPacket_87 : decode cX11_addPacket 87 = .ok (.ireturn, 1) := by decide +kernel
theorem dX11_addPacket_88 : decode cX11_addPacket 88 = .ok (.aload_n 0, 1) := by decide +kernel
theorem dX11_addPacket_89 : decode cX11_addPacket 89 = .ok (.invokevirtual 49, 3) := by decide +kernel
theorem dX11_addPacket_92 : decode cX11_addPacket 92 = .ok (.aload_n 0, 1) := by decide +kernel
theorem dX11_addPacket_93 : decode cX11_addPacket 93 = .ok (.getfield 7, 3) := by decide +kernel
theorem dX11_addPacket_96 : decode cX11_addPacket 96 = .ok (.bipush 10, 2) := by decide +kernel
theorem dX11_addPacket_98 : decode cX11_addPacket 98 = .ok (.iload_n 2, 1) := by decide +kernel
theorem dX11_addPacket_99 : decode cX11_addPacket 99 = .ok (.iadd, 1) := by decide +kernel
theorem dX11_addPacket_100 : decode cX11_addPacket 100 = .ok (.iaload, 1) := by decide +kernel
theorem dX11_addPacket_101 : decode cX11_addPacket 101 = .ok (.istore 6, 2) := by decide +kernel
theorem dX11_addPacket_103 : decode cX11_addPacket 103 = .ok (.aload_n 0, 1) := by decide +kernel
theorem dX11_addPacket_104 : decode cX11_addPacket 104 = .ok (.getfield 7, 3) := by decide +kernel
theorem dX11_addPacket_107 : decode cX11_addPacket 107 = .ok (.bipush 10, 2) := by decide +kernel
theorem dX11_addPacket_109 : decode cX11_addPacket 109 = .ok (.iload_n 2, 1) := by decide +kernel
theorem dX11_addPacket_110 : decode cX11_addPacket 110 = .ok (.iadd, 1) := by decide +kernel
theorem dX11_addPacket_111 : decode cX11_addPacket 111 = .ok (.iload 6, 2) := by decide +kernel
theorem dX11_addPacket_113 : decode cX11_addPacket 113 = .ok (.iconst 1, 1) := by decide +kernel
theorem dX11_addPacket_114 : decode cX11_addPacket 114 = .ok (.iadd, 1) := by decide +kernel
theorem dX11_addPacket_115 : decode cX11_addPacket 115 = .ok (.sipush 256, 3) := by decide +kernel
theorem dX11_addPacket_118 : decode cX11_addPacket 118 = .ok (.irem, 1) := by decide +kernel
theorem dX11_addPacket_119 : decode cX11_addPacket 119 = .ok (.iastore, 1) := by decide +kernel
theorem dX11_addPacket_120 : decode cX11_addPacket 120 = .ok (.aload_n 0, 1) := by decide +kernel
theorem dX11_addPacket_121 : decode cX11_addPacket 121 = .ok (.iload_n 1, 1) := by decide +kernel
theorem dX11_addPacket_122 : decode cX11_addPacket 122 = .ok (.iload_n 2, 1) := by decide +kernel
theorem dX11_addPacket_123 : decode cX11_addPacket 123 = .ok (.iload 6, 2) := by decide +kernel
theorem dX11_addPacket_125 : decode cX11_addPacket 125 = .ok (.iload_n 3, 1) := by decide +kernel
theorem dX11_addPacket_126 : decode cX11_addPacket 126 = .ok (.iload 4, 2) := by decide +kernel
theorem dX11_addPacket_128 : decode cX11_addPacket 128 = .ok (.invokevirtual 72, 3) := by decide +kernel
theorem dX11_addPacket_131 : decode cX11_addPacket 131 = .ok (.iload 6, 2) := by decide +kernel
theorem dX11_addPacket_133 : decode cX11_addPacket 133 = .ok (.ireturn, 1) := by decide +kernel
theorem dX11_queueOf_0 : decode cX11_queueOf 0 = .ok (.iload_n 2, 1) := by decide +kernel
theorem dX11_queueOf_1 : decode cX11_queueOf 1 = .ok (.ifCond .ne 11, 3) := by decide +kernel
theorem dX11_queueOf_4 : decode cX11_queueOf 4 = .ok (.aload_n 0, 1) := by decide +kernel
theorem dX11_queueOf_5 : decode cX11_queueOf 5 = .ok (.iload_n 1, 1) := by decide +kernel
theorem dX11_queueOf_6 : decode cX11_queueOf 6 = .ok (.invokevirtual 69, 3) := by decide +kernel
theorem dX11_queueOf_9 : decode cX11_queueOf 9 = .ok (.goto 25, 3) := by decide +kernel
theorem dX11_queueOf_12 : decode cX11_queueOf 12 = .ok (.iload_n 2, 1) := by decide +kernel
theorem dX11_queueOf_13 : decode cX11_queueOf 13 = .ok (.iconst 1, 1) := by decide +kernel
theorem dX11_queueOf_14 : decode cX11_queueOf 14 = .ok (.if_icmp .ne 11, 3) := by decide +kernel
theorem dX11_queueOf_17 : decode cX11_queueOf 17 = .ok (.aload_n 0, 1) := by decide +kernel
theorem dX11_queueOf_18 : decode cX11_queueOf 18 = .ok (.iload_n 1, 1) := by decide +kernel
theorem dX11_queueOf_19 : decode cX11_queueOf 19 = .ok (.invokevirtual 41, 3) := by decide +kernel
theorem dX11_queueOf_22 : decode cX11_queueOf 22 = .ok (.goto 12, 3) := by decide +kernel
theorem dX11_queueOf_25 : decode cX11_queueOf 25 = .ok (.aload_n 0, 1) := by decide +kernel
theorem dX11_queueOf_26 : decode cX11_queueOf 26 = .ok (.getfield 7, 3) := by decide +kernel
theorem dX11_queueOf_29 : decode cX11_queueOf 29 = .ok (.bipush 37, 2) := by decide +kernel
theorem dX11_queueOf_31 : decode cX11_queueOf 31 = .ok (.iload_n 1, 1) := by decide +kernel
theorem dX11_queueOf_32 : decode cX11_queueOf 32 = .ok (.iadd, 1) := by decide +kernel
theorem dX11_queueOf_33 : decode cX11_queueOf 33 = .ok (.iaload, 1) := by decide +kernel
theorem dX11_queueOf_34 : decode cX11_queueOf 34 = .ok (.ireturn, 1) := by decide +kernel
theorem dX11_queue_0 : decode cX11_queue 0 = .ok (.aload_n 0, 1) := by decide +kernel
theorem dX11_queue_1 : decode cX11_queue 1 = .ok (.iload_n 1, 1) := by decide +kernel
theorem dX11_queue_2 : decode cX11_queue 2 = .ok (.invokestatic 52, 3) := by decide +kernel
theorem dX11_queue_5 : decode cX11_queue 5 = .ok (.ifCond .ne 7, 3) := by decide +kernel
theorem dX11_queue_8 : decode cX11_queue 8 = .ok (.iconst 1, 1) := by decide +kernel
theorem dX11_queue_9 : decode cX11_queue 9 = .ok (.goto 20, 3) := by decide +kernel
theorem dX11_queue_12 : decode cX11_queue 12 = .ok (.iload_n 2, 1) := by decide +kernel
theorem dX11_queue_13 : decode cX11_queue 13 = .ok (.i2l, 1) := by decide +kernel
theorem dX11_queue_14 : decode cX11_queue 14 = .ok (.lconst 0, 1) := by decide +kernel
theorem dX11_queue_15 : decode cX11_queue 15 = .ok (.ldc2_w 76, 3) := by decide +kernel
theorem dX11_queue_18 : decode cX11_queue 18 = .ok (.invokestatic 23, 3) := by decide +kernel
theorem dX11_queue_21 : decode cX11_queue 21 = .ok (.ifCond .eq 7, 3) := by decide +kernel
theorem dX11_queue_24 : decode cX11_queue 24 = .ok (.iconst 0, 1) := by decide +kernel
theorem dX11_queue_25 : decode cX11_queue 25 = .ok (.goto 4, 3) := by decide +kernel
theorem dX11_queue_28 : decode cX11_queue 28 = .ok (.iconst 2, 1) := by decide +kernel
theorem dX11_queue_29 : decode cX11_queue 29 = .ok (.invokevirtual 30, 3) := by decide +kernel
theorem dX11_queue_32 : decode cX11_queue 32 = .ok (.ifCond .eq 7, 3) := by decide +kernel
theorem dX11_queue_35 : decode cX11_queue 35 = .ok (.iconst 0, 1) := by decide +kernel
theorem dX11_queue_36 : decode cX11_queue 36 = .ok (.goto 9, 3) := by decide +kernel
theorem dX11_queue_39 : decode cX11_queue 39 = .ok (.aload_n 0, 1) := by decide +kernel
theorem dX11_queue_40 : decode cX11_queue 40 = .ok (.iload_n 1, 1) := by decide +kernel
theorem dX11_queue_41 : decode cX11_queue 41 = .ok (.iload_n 2, 1) := by decide +kernel
theorem dX11_queue_42 : decode cX11_queue 42 = .ok (.invokevirtual 78, 3) := by decide +kernel
theorem dX11_queue_45 : decode cX11_queue 45 = .ok (.ireturn, 1) := by decide +kernel
theorem dX11_isOverdue_0 : decode cX11_isOverdue 0 = .ok (.aload_n 0, 1) := by decide +kernel
theorem dX11_isOverdue_1 : decode cX11_isOverdue 1 = .ok (.iload_n 1, 1) := by decide +kernel
theorem dX11_isOverdue_2 : decode cX11_isOverdue 2 = .ok (.invokevirtual 41, 3) := by decide +kernel
theorem dX11_isOverdue_5 : decode cX11_isOverdue 5 = .ok (.ifCond .le 28, 3) := by decide +kernel
theorem dX11_isOverdue_8 : decode cX11_isOverdue 8 = .ok (.aload_n 0, 1) := by decide +kernel
theorem dX11_isOverdue_9 : decode cX11_isOverdue 9 = .ok (.getfield 7, 3) := by decide +kernel
theorem dX11_isOverdue_12 : decode cX11_isOverdue 12 = .ok (.bipush 37, 2) := by decide +kernel
theorem dX11_isOverdue_14 : decode cX11_isOverdue 14 = .ok (.iload_n 1, 1) := by decide +kernel
theorem dX11_isOverdue_15 : decode cX11_isOverdue 15 = .ok (.iadd, 1) := by decide +kernel
theorem dX11_isOverdue_16 : decode cX11_isOverdue 16 = .ok (.iaload, 1) := by decide +kernel
theorem dX11_isOverdue_17 : decode cX11_isOverdue 17 = .ok (.aload_n 0, 1) := by decide +kernel
theorem dX11_isOverdue_18 : decode cX11_isOverdue 18 = .ok (.getfield 7, 3) := by decide +kernel
theorem dX11_isOverdue_21 : decode cX11_isOverdue 21 = .ok (.bipush 29, 2) := by decide +kernel
theorem dX11_isOverdue_23 : decode cX11_isOverdue 23 = .ok (.iload_n 1, 1) := by decide +kernel
theorem dX11_isOverdue_24 : decode cX11_isOverdue 24 = .ok (.iadd, 1) := by decide +kernel
theorem dX11_isOverdue_25 : decode cX11_isOverdue 25 = .ok (.iaload, 1) := by decide +kernel
theorem dX11_isOverdue_26 : decode cX11_isOverdue 26 = .ok (.if_icmp .lt 7, 3) := by decide +kernel
theorem dX11_isOverdue_29 : decode cX11_isOverdue 29 = .ok (.iconst 1, 1) := by decide +kernel
theorem dX11_isOverdue_30 : decode cX11_isOverdue 30 = .ok (.goto 4, 3) := by decide +kernel
theorem dX11_isOverdue_33 : decode cX11_isOverdue 33 = .ok (.iconst 0, 1) := by decide +kernel
theorem dX11_isOverdue_34 : decode cX11_isOverdue 34 = .ok (.ireturn, 1) := by decide +kernel
theorem dX11_isReady_0 : decode cX11_isReady 0 = .ok (.aload_n 0, 1) := by decide +kernel
theorem dX11_isReady_1 : decode cX11_isReady 1 = .ok (.iload_n 1, 1) := by decide +kernel
theorem dX11_isReady_2 : decode cX11_isReady 2 = .ok (.invokevirtual 41, 3) := by decide +kernel
theorem dX11_isReady_5 : decode cX11_isReady 5 = .ok (.aload_n 0, 1) := by decide +kernel
theorem dX11_isReady_6 : decode cX11_isReady 6 = .ok (.getfield 7, 3) := by decide +kernel
theorem dX11_isReady_9 : decode cX11_isReady 9 = .ok (.iconst 0, 1) := by decide +kernel
theorem dX11_isReady_10 : decode cX11_isReady 10 = .ok (.iaload, 1) := by decide +kernel
theorem dX11_isReady_11 : decode cX11_isReady 11 = .ok (.if_icmp .ge 32, 3) := by decide +kernel
theorem dX11_isReady_14 : decode cX11_isReady 14 = .ok (.aload_n 0, 1) := by decide +kernel
theorem dX11_isReady_15 : decode cX11_isReady 15 = .ok (.iload_n 1, 1) := by decide +kernel
theorem dX11_isReady_16 : decode cX11_isReady 16 = .ok (.invokevirtual 41, 3) := by decide +kernel
theorem dX11_isReady_19 : decode cX11_isReady 19 = .ok (.ifCond .le 28, 3) := by decide +kernel
theorem dX11_isReady_22 : decode cX11_isReady 22 = .ok (.aload_n 0, 1) := by decide +kernel
theorem dX11_isReady_23 : decode cX11_isReady 23 = .ok (.getfield 7, 3) := by decide +kernel
theorem dX11_isReady_26 : decode cX11_isReady 26 = .ok (.bipush 37, 2) := by decide +kernel
theorem dX11_isReady_28 : decode cX11_isReady 28 = .ok (.iload_n 1, 1) := by decide +kernel
theorem dX11_isReady_29 : decode cX11_isReady 29 = .ok (.iadd, 1) := by decide +kernel
theorem dX11_isReady_30 : decode cX11_isReady 30 = .ok (.iaload, 1) := by decide +kernel
theorem dX11_isReady_31 : decode cX11_isReady 31 = .ok (.aload_n 0, 1) := by decide +kernel
theorem dX11_isReady_32 : decode cX11_isReady 32 = .ok (.getfield 7, 3) := by decide +kernel
theorem dX11_isReady_35 : decode cX11_isReady 35 = .ok (.bipush 33, 2) := by decide +kernel
theorem dX11_isReady_37 : decode cX11_isReady 37 = .ok (.iload_n 1, 1) := by decide +kernel
theorem dX11_isReady_38 : decode cX11_isReady 38 = .ok (.iadd, 1) := by decide +kernel
theorem dX11_isReady_39 : decode cX11_isReady 39 = .ok (.iaload, 1) := by decide +kernel
theorem dX11_isReady_40 : decode cX11_isReady 40 = .ok (.if_icmp .lt 7, 3) := by decide +kernel
theorem dX11_isReady_43 : decode cX11_isReady 43 = .ok (.iconst 1, 1) := by decide +kernel
theorem dX11_isReady_44 : decode cX11_isReady 44 = .ok (.goto 4, 3) := by decide +kernel
theorem dX11_isReady_47 : decode cX11_isReady 47 = .ok (.iconst 0, 1) := by decide +kernel
theorem dX11_isReady_48 : decode cX11_isReady 48 = .ok (.ireturn, 1) := by decide +kernel
theorem dX11_isAhead_0 : decode cX11_isAhead 0 = .ok (.iload_n 3, 1) := by decide +kernel
theorem dX11_isAhead_1 : decode cX11_isAhead 1 = .ok (.ifCond .eq 45, 3) := by decide +kernel
theorem dX11_isAhead_4 : decode cX11_isAhead 4 = .ok (.aload_n 0, 1) := by decide +kernel
theorem dX11_isAhead_5 : decode cX11_isAhead 5 = .ok (.getfield 7, 3) := by decide +kernel
theorem dX11_isAhead_8 : decode cX11_isAhead 8 = .ok (.bipush 37, 2) := by decide +kernel
theorem dX11_isAhead_10 : decode cX11_isAhead 10 = .ok (.iload_n 1, 1) := by decide +kernel
theorem dX11_isAhead_11 : decode cX11_isAhead 11 = .ok (.iadd, 1) := by decide +kernel
theorem dX11_isAhead_12 : decode cX11_isAhead 12 = .ok (.iaload, 1) := by decide +kernel
theorem dX11_isAhead_13 : decode cX11_isAhead 13 = .ok (.aload_n 0, 1) := by decide +kernel
theorem dX11_isAhead_14 : decode cX11_isAhead 14 = .ok (.getfield 7, 3) := by decide +kernel
theorem dX11_isAhead_17 : decode cX11_isAhead 17 = .ok (.bipush 29, 2) := by decide +kernel
theorem dX11_isAhead_19 : decode cX11_isAhead 19 = .ok (.iload_n 1, 1) := by decide +kernel
theorem dX11_isAhead_20 : decode cX11_isAhead 20 = .ok (.iadd, 1) := by decide +kernel
theorem dX11_isAhead_21 : decode cX11_isAhead 21 = .ok (.iaload, 1) := by decide +kernel
theorem dX11_isAhead_22 : decode cX11_isAhead 22 = .ok (.isub, 1) := by decide +kernel
theorem dX11_isAhead_23 : decode cX11_isAhead 23 = .ok (.aload_n 0, 1) := by decide +kernel
theorem dX11_isAhead_24 : decode cX11_isAhead 24 = .ok (.getfield 7, 3) := by decide +kernel
theorem dX11_isAhead_27 : decode cX11_isAhead 27 = .ok (.bipush 37, 2) := by decide +kernel
theorem dX11_isAhead_29 : decode cX11_isAhead 29 = .ok (.iload_n 2, 1) := by decide +kernel
theorem dX11_isAhead_30 : decode cX11_isAhead 30 = .ok (.iadd, 1) := by decide +kernel
theorem dX11_isAhead_31 : decode cX11_isAhead 31 = .ok (.iaload, 1) := by decide +kernel
theorem dX11_isAhead_32 : decode cX11_isAhead 32 = .ok (.isub, 1) := by decide +kernel
theorem dX11_isAhead_33 : decode cX11_isAhead 33 = .ok (.aload_n 0, 1) := by decide +kernel
theorem dX11_isAhead_34 : decode cX11_isAhead 34 = .ok (.getfield 7, 3) := by decide +kernel
theorem dX11_isAhead_37 : decode cX11_isAhead 37 = .ok (.bipush 29, 2) := by decide +kernel
theorem dX11_isAhead_39 : decode cX11_isAhead 39 = .ok (.iload_n 2, 1) := by decide +kernel
theorem dX11_isAhead_40 : decode cX11_isAhead 40 = .ok (.iadd, 1) := by decide +kernel
theorem dX11_isAhead_41 : decode cX11_isAhead 41 = .ok (.iaload, 1) := by decide +kernel
theorem dX11_isAhead_42 : decode cX11_isAhead 42 = .ok (.iadd, 1) := by decide +kernel
theorem dX11_isAhead_43 : decode cX11_isAhead 43 = .ok (.goto 4, 3) := by decide +kernel
theorem dX11_isAhead_46 : decode cX11_isAhead 46 = .ok (.iconst 0, 1) := by decide +kernel
theorem dX11_isAhead_47 : decode cX11_isAhead 47 = .ok (.istore 4, 2) := by decide +kernel
theorem dX11_isAhead_49 : decode cX11_isAhead 49 = .ok (.iload 4, 2) := by decide +kernel
theorem dX11_isAhead_51 : decode cX11_isAhead 51 = .ok (.ifCond .eq 14, 3) := by decide +kernel
theorem dX11_isAhead_54 : decode cX11_isAhead 54 = .ok (.iload 4, 2) := by decide +kernel
theorem dX11_isAhead_56 : decode cX11_isAhead 56 = .ok (.ifCond .le 7, 3) := by decide +kernel
theorem dX11_isAhead_59 : decode cX11_isAhead 59 = .ok (.iconst 1, 1) := by decide +kernel
theorem dX11_isAhead_60 : decode cX11_isAhead 60 = .ok (.goto 4, 3) := by decide +kernel
theorem dX11_isAhead_63 : decode cX11_isAhead 63 = .ok (.iconst 0, 1) := by decide +kernel
theorem dX11_isAhead_64 : decode cX11_isAhead 64 = .ok (.ireturn, 1) := by decide +kernel
theorem dX11_isAhead_65 : decode cX11_isAhead 65 = .ok (.aload_n 0, 1) := by decide +kernel
theorem dX11_isAhead_66 : decode cX11_isAhead 66 = .ok (.getfield 7, 3) := by decide +kernel
theorem dX11_isAhead_69 : decode cX11_isAhead 69 = .ok (.bipush 25, 2) := by decide +kernel
theorem dX11_isAhead_71 : decode cX11_isAhead 71 = .ok (.iload_n 1, 1) := by decide +kernel
theorem dX11_isAhead_72 : decode cX11_isAhead 72 = .ok (.iadd, 1) := by decide +kernel
theorem dX11_isAhead_73 : decode cX11_isAhead 73 = .ok (.iaload, 1) := by decide +kernel
theorem dX11_isAhead_74 : decode cX11_isAhead 74 = .ok (.aload_n 0, 1) := by decide +kernel
theorem dX11_isAhead_75 : decode cX11_isAhead 75 = .ok (.getfield 7, 3) := by decide +kernel
theorem dX11_isAhead_78 : decode cX11_isAhead 78 = .ok (.bipush 25, 2) := by decide +kernel
theorem dX11_isAhead_80 : decode cX11_isAhead 80 = .ok (.iload_n 2, 1) := by decide +kernel
theorem dX11_isAhead_81 : decode cX11_isAhead 81 = .ok (.iadd, 1) := by decide +kernel
theorem dX11_isAhead_82 : decode cX11_isAhead 82 = .ok (.iaload, 1) := by decide +kernel
theorem dX11_isAhead_83 : decode cX11_isAhead 83 = .ok (.isub, 1) := by decide +kernel
theorem dX11_isAhead_84 : decode cX11_isAhead 84 = .ok (.istore 4, 2) := by decide +kernel
theorem dX11_isAhead_86 : decode cX11_isAhead 86 = .ok (.iload 4, 2) := by decide +kernel
theorem dX11_isAhead_88 : decode cX11_isAhead 88 = .ok (.ifCond .gt 29, 3) := by decide +kernel
theorem dX11_isAhead_91 : decode cX11_isAhead 91 = .ok (.iload 4, 2) := by decide +kernel
theorem dX11_isAhead_93 : decode cX11_isAhead 93 = .ok (.ifCond .ne 28, 3) := by decide +kernel
theorem dX11_isAhead_96 : decode cX11_isAhead 96 = .ok (.aload_n 0, 1) := by decide +kernel
theorem dX11_isAhead_97 : decode cX11_isAhead 97 = .ok (.getfield 7, 3) := by decide +kernel
theorem dX11_isAhead_100 : decode cX11_isAhead 100 = .ok (.bipush 37, 2) := by decide +kernel
theorem dX11_isAhead_102 : decode cX11_isAhead 102 = .ok (.iload_n 1, 1) := by decide +kernel
theorem dX11_isAhead_103 : decode cX11_isAhead 103 = .ok (.iadd, 1) := by decide +kernel
theorem dX11_isAhead_104 : decode cX11_isAhead 104 = .ok (.iaload, 1) := by decide +kernel
theorem dX11_isAhead_105 : decode cX11_isAhead 105 = .ok (.aload_n 0, 1) := by decide +kernel
theorem dX11_isAhead_106 : decode cX11_isAhead 106 = .ok (.getfield 7, 3) := by decide +kernel
theorem dX11_isAhead_109 : decode cX11_isAhead 109 = .ok (.bipush 37, 2) := by decide +kernel
theorem dX11_isAhead_111 : decode cX11_isAhead 111 = .ok (.iload_n 2, 1) := by decide +kernel
theorem dX11_isAhead_112 : decode cX11_isAhead 112 = .ok (.iadd, 1) := by decide +kernel
theorem dX11_isAhead_113 : decode cX11_isAhead 113 = .ok (.iaload, 1) := by decide +kernel
theorem dX11_isAhead_114 : decode cX11_isAhead 114 = .ok (.if_icmp .le 7, 3) := by decide +kernel
theorem dX11_isAhead_117 : decode cX11_isAhead 117 = .ok (.iconst 1, 1) := by decide +kernel
theorem dX11_isAhead_118 : decode cX11_isAhead 118 = .ok (.goto 4, 3) := by decide +kernel
theorem dX11_isAhead_121 : decode cX11_isAhead 121 = .ok (.iconst 0, 1) := by decide +kernel
theorem dX11_isAhead_122 : decode cX11_isAhead 122 = .ok (.ireturn, 1) := by decide +kernel
theorem dX11_best_0 : decode cX11_best 0 = .ok (.iconst (-1), 1) := by decide +kernel
theorem dX11_best_1 : decode cX11_best 1 = .ok (.istore_n 2, 1) := by decide +kernel
theorem dX11_best_2 : decode cX11_best 2 = .ok (.iconst 0, 1) := by decide +kernel
theorem dX11_best_3 : decode cX11_best 3 = .ok (.istore_n 3, 1) := by decide +kernel
theorem dX11_best_4 : decode cX11_best 4 = .ok (.iload_n 3, 1) := by decide +kernel
theorem dX11_best_5 : decode cX11_best 5 = .ok (.iconst 4, 1) := by decide +kernel
theorem dX11_best_6 : decode cX11_best 6 = .ok (.if_icmp .ge 54, 3) := by decide +kernel
theorem dX11_best_9 : decode cX11_best 9 = .ok (.iload_n 1, 1) := by decide +kernel
theorem dX11_best_10 : decode cX11_best 10 = .ok (.ifCond .eq 11, 3) := by decide +kernel
theorem dX11_best_13 : decode cX11_best 13 = .ok (.aload_n 0, 1) := by decide +kernel
theorem dX11_best_14 : decode cX11_best 14 = .ok (.iload_n 3, 1) := by decide +kernel
theorem dX11_best_15 : decode cX11_best 15 = .ok (.invokevirtual 81, 3) := by decide +kernel
theorem dX11_best_18 : decode cX11_best 18 = .ok (.goto 8, 3) := by decide +kernel
theorem dX11_best_21 : decode cX11_best 21 = .ok (.aload_n 0, 1) := by decide +kernel
theorem dX11_best_22 : decode cX11_best 22 = .ok (.iload_n 3, 1) := by decide +kernel
theorem dX11_best_23 : decode cX11_best 23 = .ok (.invokevirtual 84, 3) := by decide +kernel
theorem dX11_best_26 : decode cX11_best 26 = .ok (.istore 4, 2) := by decide +kernel
theorem dX11_best_28 : decode cX11_best 28 = .ok (.iload 4, 2) := by decide +kernel
theorem dX11_best_30 : decode cX11_best 30 = .ok (.ifCond .eq 22, 3) := by decide +kernel
theorem dX11_best_33 : decode cX11_best 33 = .ok (.iload_n 2, 1) := by decide +kernel
theorem dX11_best_34 : decode cX11_best 34 = .ok (.iconst (-1), 1) := by decide +kernel
theorem dX11_best_35 : decode cX11_best 35 = .ok (.if_icmp .eq 13, 3) := by decide +kernel
theorem dX11_best_38 : decode cX11_best 38 = .ok (.aload_n 0, 1) := by decide +kernel
theorem dX11_best_39 : decode cX11_best 39 = .ok (.iload_n 3, 1) := by decide +kernel
theorem dX11_best_40 : decode cX11_best 40 = .ok (.iload_n 2, 1) := by decide +kernel
theorem dX11_best_41 : decode cX11_best 41 = .ok (.iload_n 1, 1) := by decide +kernel
theorem dX11_best_42 : decode cX11_best 42 = .ok (.invokevirtual 87, 3) := by decide +kernel
theorem dX11_best_45 : decode cX11_best 45 = .ok (.ifCond .eq 7, 3) := by decide +kernel
theorem dX11_best_48 : decode cX11_best 48 = .ok (.iload_n 3, 1) := by decide +kernel
theorem dX11_best_49 : decode cX11_best 49 = .ok (.goto 4, 3) := by decide +kernel
theorem dX11_best_52 : decode cX11_best 52 = .ok (.iload_n 2, 1) := by decide +kernel
theorem dX11_best_53 : decode cX11_best 53 = .ok (.istore_n 2, 1) := by decide +kernel
theorem dX11_best_54 : decode cX11_best 54 = .ok (.iinc 3 1, 3) := by decide +kernel
theorem dX11_best_57 : decode cX11_best 57 = .ok (.goto (-53), 3) := by decide +kernel
theorem dX11_best_60 : decode cX11_best 60 = .ok (.iload_n 2, 1) := by decide +kernel
theorem dX11_best_61 : decode cX11_best 61 = .ok (.ireturn, 1) := by decide +kernel
theorem dX11_chosen_0 : decode cX11_chosen 0 = .ok (.aload_n 0, 1) := by decide +kernel
theorem dX11_chosen_1 : decode cX11_chosen 1 = .ok (.iconst 1, 1) := by decide +kernel
theorem dX11_chosen_2 : decode cX11_chosen 2 = .ok (.invokevirtual 91, 3) := by decide +kernel
theorem dX11_chosen_5 : decode cX11_chosen 5 = .ok (.istore_n 1, 1) := by decide +kernel
theorem dX11_chosen_6 : decode cX11_chosen 6 = .ok (.iload_n 1, 1) := by decide +kernel
theorem dX11_chosen_7 : decode cX11_chosen 7 = .ok (.iconst (-1), 1) := by decide +kernel
theorem dX11_chosen_8 : decode cX11_chosen 8 = .ok (.if_icmp .ne 11, 3) := by decide +kernel
theorem dX11_chosen_11 : decode cX11_chosen 11 = .ok (.aload_n 0, 1) := by decide +kernel
theorem dX11_chosen_12 : decode cX11_chosen 12 = .ok (.iconst 0, 1) := by decide +kernel
theorem dX11_chosen_13 : decode cX11_chosen 13 = .ok (.invokevirtual 91, 3) := by decide +kernel
theorem dX11_chosen_16 : decode cX11_chosen 16 = .ok (.goto 4, 3) := by decide +kernel
theorem dX11_chosen_19 : decode cX11_chosen 19 = .ok (.iload_n 1, 1) := by decide +kernel
theorem dX11_chosen_20 : decode cX11_chosen 20 = .ok (.ireturn, 1) := by decide +kernel
theorem dX11_nextChannel_0 : decode cX11_nextChannel 0 = .ok (.aload_n 0, 1) := by decide +kernel
theorem dX11_nextChannel_1 : decode cX11_nextChannel 1 = .ok (.iconst 0, 1) := by decide +kernel
theorem dX11_nextChannel_2 : decode cX11_nextChannel 2 = .ok (.putfield 17, 3) := by decide +kernel
theorem dX11_nextChannel_5 : decode cX11_nextChannel 5 = .ok (.aload_n 0, 1) := by decide +kernel
theorem dX11_nextChannel_6 : decode cX11_nextChannel 6 = .ok (.invokevirtual 95, 3) := by decide +kernel
theorem dX11_nextChannel_9 : decode cX11_nextChannel 9 = .ok (.ireturn, 1) := by decide +kernel
theorem dX11_frameAt_0 : decode cX11_frameAt 0 = .ok (.sipush 383, 3) := by decide +kernel
theorem dX11_frameAt_3 : decode cX11_frameAt 3 = .ok (.bipush 50, 2) := by decide +kernel
theorem dX11_frameAt_5 : decode cX11_frameAt 5 = .ok (.iload_n 1, 1) := by decide +kernel
theorem dX11_frameAt_6 : decode cX11_frameAt 6 = .ok (.imul, 1) := by decide +kernel
theorem dX11_frameAt_7 : decode cX11_frameAt 7 = .ok (.iadd, 1) := by decide +kernel
theorem dX11_frameAt_8 : decode cX11_frameAt 8 = .ok (.ireturn, 1) := by decide +kernel
theorem dX11_checked_0 : decode cX11_checked 0 = .ok (.ldc 99, 2) := by decide +kernel
theorem dX11_checked_2 : decode cX11_checked 2 = .ok (.istore_n 2, 1) := by decide +kernel
theorem dX11_checked_3 : decode cX11_checked 3 = .ok (.iconst 0, 1) := by decide +kernel
theorem dX11_checked_4 : decode cX11_checked 4 = .ok (.istore_n 3, 1) := by decide +kernel
theorem dX11_checked_5 : decode cX11_checked 5 = .ok (.iload_n 3, 1) := by decide +kernel
theorem dX11_checked_6 : decode cX11_checked 6 = .ok (.iconst 4, 1) := by decide +kernel
theorem dX11_checked_7 : decode cX11_checked 7 = .ok (.aload_n 0, 1) := by decide +kernel
theorem dX11_checked_8 : decode cX11_checked 8 = .ok (.getfield 7, 3) := by decide +kernel
theorem dX11_checked_11 : decode cX11_checked 11 = .ok (.aload_n 0, 1) := by decide +kernel
theorem dX11_checked_12 : decode cX11_checked 12 = .ok (.iload_n 1, 1) := by decide +kernel
theorem dX11_checked_13 : decode cX11_checked 13 = .ok (.invokevirtual 100, 3) := by decide +kernel
theorem dX11_checked_16 : decode cX11_checked 16 = .ok (.iaload, 1) := by decide +kernel
theorem dX11_checked_17 : decode cX11_checked 17 = .ok (.iadd, 1) := by decide +kernel
theorem dX11_checked_18 : decode cX11_checked 18 = .ok (.if_icmp .ge 68, 3) := by decide +kernel
theorem dX11_checked_21 : decode cX11_checked 21 = .ok (.iload_n 2, 1) := by decide +kernel
theorem dX11_checked_22 : decode cX11_checked 22 = .ok (.aload_n 0, 1) := by decide +kernel
theorem dX11_checked_23 : decode cX11_checked 23 = .ok (.getfield 7, 3) := by decide +kernel
theorem dX11_checked_26 : decode cX11_checked 26 = .ok (.aload_n 0, 1) := by decide +kernel
theorem dX11_checked_27 : decode cX11_checked 27 = .ok (.iload_n 1, 1) := by decide +kernel
theorem dX11_checked_28 : decode cX11_checked 28 = .ok (.invokevirtual 100, 3) := by decide +kernel
theorem dX11_checked_31 : decode cX11_checked 31 = .ok (.iconst 4, 1) := by decide +kernel
theorem dX11_checked_32 : decode cX11_checked 32 = .ok (.iadd, 1) := by decide +kernel
theorem dX11_checked_33 : decode cX11_checked 33 = .ok (.iload_n 3, 1) := by decide +kernel
theorem dX11_checked_34 : decode cX11_checked 34 = .ok (.iadd, 1) := by decide +kernel
theorem dX11_checked_35 : decode cX11_checked 35 = .ok (.iaload, 1) := by decide +kernel
theorem dX11_checked_36 : decode cX11_checked 36 = .ok (.bipush 8, 2) := by decide +kernel
theorem dX11_checked_38 : decode cX11_checked 38 = .ok (.ishl, 1) := by decide +kernel
theorem dX11_checked_39 : decode cX11_checked 39 = .ok (.ixor, 1) := by decide +kernel
theorem dX11_checked_40 : decode cX11_checked 40 = .ok (.istore_n 2, 1) := by decide +kernel
theorem dX11_checked_41 : decode cX11_checked 41 = .ok (.iconst 0, 1) := by decide +kernel
theorem dX11_checked_42 : decode cX11_checked 42 = .ok (.istore 4, 2) := by decide +kernel
theorem dX11_checked_44 : decode cX11_checked 44 = .ok (.iload 4, 2) := by decide +kernel
theorem dX11_checked_46 : decode cX11_checked 46 = .ok (.bipush 8, 2) := by decide +kernel
theorem dX11_checked_48 : decode cX11_checked 48 = .ok (.if_icmp .ge 32, 3) := by decide +kernel
theorem dX11_checked_51 : decode cX11_checked 51 = .ok (.iload_n 2, 1) := by decide +kernel
theorem dX11_checked_52 : decode cX11_checked 52 = .ok (.ldc 103, 2) := by decide +kernel
theorem dX11_checked_54 : decode cX11_checked 54 = .ok (.if_icmp .ge 9, 3) := by decide +kernel
theorem dX11_checked_57 : decode cX11_checked 57 = .ok (.iconst 2, 1) := by decide +kernel
theorem dX11_checked_58 : decode cX11_checked 58 = .ok (.iload_n 2, 1) := by decide +kernel
theorem dX11_checked_59 : decode cX11_checked 59 = .ok (.imul, 1) := by decide +kernel
theorem dX11_checked_60 : decode cX11_checked 60 = .ok (.goto 10, 3) := by decide +kernel
theorem dX11_checked_63 : decode cX11_checked 63 = .ok (.iconst 2, 1) := by decide +kernel
theorem dX11_checked_64 : decode cX11_checked 64 = .ok (.iload_n 2, 1) := by decide +kernel
theorem dX11_checked_65 : decode cX11_checked 65 = .ok (.imul, 1) := by decide +kernel
theorem dX11_checked_66 : decode cX11_checked 66 = .ok (.sipush 4129, 3) := by decide +kernel
theorem dX11_checked_69 : decode cX11_checked 69 = .ok (.ixor, 1) := by decide +kernel
theorem dX11_checked_70 : decode cX11_checked 70 = .ok (.ldc 104, 2) := by decide +kernel
theorem dX11_checked_72 : decode cX11_checked 72 = .ok (.irem, 1) := by decide +kernel
theorem dX11_checked_73 : decode cX11_checked 73 = .ok (.istore_n 2, 1) := by decide +kernel
theorem dX11_checked_74 : decode cX11_checked 74 = .ok (.iinc 4 1, 3) := by decide +kernel
theorem dX11_checked_77 : decode cX11_checked 77 = .ok (.goto (-33), 3) := by decide +kernel
theorem dX11_checked_80 : decode cX11_checked 80 = .ok (.iinc 3 1, 3) := by decide +kernel
theorem dX11_checked_83 : decode cX11_checked 83 = .ok (.goto (-78), 3) := by decide +kernel
theorem dX11_checked_86 : decode cX11_checked 86 = .ok (.iload_n 2, 1) := by decide +kernel
theorem dX11_checked_87 : decode cX11_checked 87 = .ok (.ireturn, 1) := by decide +kernel
theorem dX11_laysCheck_0 : decode cX11_laysCheck 0 = .ok (.aload_n 0, 1) := by decide +kernel
theorem dX11_laysCheck_1 : decode cX11_laysCheck 1 = .ok (.iload_n 1, 1) := by decide +kernel
theorem dX11_laysCheck_2 : decode cX11_laysCheck 2 = .ok (.invokevirtual 100, 3) := by decide +kernel
theorem dX11_laysCheck_5 : decode cX11_laysCheck 5 = .ok (.iconst 4, 1) := by decide +kernel
theorem dX11_laysCheck_6 : decode cX11_laysCheck 6 = .ok (.iadd, 1) := by decide +kernel
theorem dX11_laysCheck_7 : decode cX11_laysCheck 7 = .ok (.iconst 4, 1) := by decide +kernel
theorem dX11_laysCheck_8 : decode cX11_laysCheck 8 = .ok (.iadd, 1) := by decide +kernel
theorem dX11_laysCheck_9 : decode cX11_laysCheck 9 = .ok (.aload_n 0, 1) := by decide +kernel
theorem dX11_laysCheck_10 : decode cX11_laysCheck 10 = .ok (.getfield 7, 3) := by decide +kernel
theorem dX11_laysCheck_13 : decode cX11_laysCheck 13 = .ok (.aload_n 0, 1) := by decide +kernel
theorem dX11_laysCheck_14 : decode cX11_laysCheck 14 = .ok (.iload_n 1, 1) := by decide +kernel
theorem dX11_laysCheck_15 : decode cX11_laysCheck 15 = .ok (.invokevirtual 100, 3) := by decide +kernel
theorem dX11_laysCheck_18 : decode cX11_laysCheck 18 = .ok (.iaload, 1) := by decide +kernel
theorem dX11_laysCheck_19 : decode cX11_laysCheck 19 = .ok (.iadd, 1) := by decide +kernel
theorem dX11_laysCheck_20 : decode cX11_laysCheck 20 = .ok (.istore_n 2, 1) := by decide +kernel
theorem dX11_laysCheck_21 : decode cX11_laysCheck 21 = .ok (.aload_n 0, 1) := by decide +kernel
theorem dX11_laysCheck_22 : decode cX11_laysCheck 22 = .ok (.getfield 7, 3) := by decide +kernel
theorem dX11_laysCheck_25 : decode cX11_laysCheck 25 = .ok (.iload_n 2, 1) := by decide +kernel
theorem dX11_laysCheck_26 : decode cX11_laysCheck 26 = .ok (.aload_n 0, 1) := by decide +kernel
theorem dX11_laysCheck_27 : decode cX11_laysCheck 27 = .ok (.iload_n 1, 1) := by decide +kernel
theorem dX11_laysCheck_28 : decode cX11_laysCheck 28 = .ok (.invokevirtual 105, 3) := by decide +kernel
theorem dX11_laysCheck_31 : decode cX11_laysCheck 31 = .ok (.sipush 256, 3) := by decide +kernel
theorem dX11_laysCheck_34 : decode cX11_laysCheck 34 = .ok (.idiv, 1) := by decide +kernel
theorem dX11_laysCheck_35 : decode cX11_laysCheck 35 = .ok (.iastore, 1) := by decide +kernel
theorem dX11_laysCheck_36 : decode cX11_laysCheck 36 = .ok (.aload_n 0, 1) := by decide +kernel
theorem dX11_laysCheck_37 : decode cX11_laysCheck 37 = .ok (.getfield 7, 3) := by decide +kernel
theorem dX11_laysCheck_40 : decode cX11_laysCheck 40 = .ok (.iload_n 2, 1) := by decide +kernel
theorem dX11_laysCheck_41 : decode cX11_laysCheck 41 = .ok (.iconst 1, 1) := by decide +kernel
theorem dX11_laysCheck_42 : decode cX11_laysCheck 42 = .ok (.iadd, 1) := by decide +kernel
theorem dX11_laysCheck_43 : decode cX11_laysCheck 43 = .ok (.aload_n 0, 1) := by decide +kernel
theorem dX11_laysCheck_44 : decode cX11_laysCheck 44 = .ok (.iload_n 1, 1) := by decide +kernel
theorem dX11_laysCheck_45 : decode cX11_laysCheck 45 = .ok (.invokevirtual 105, 3) := by decide +kernel
theorem dX11_laysCheck_48 : decode cX11_laysCheck 48 = .ok (.sipush 256, 3) := by decide +kernel
theorem dX11_laysCheck_51 : decode cX11_laysCheck 51 = .ok (.irem, 1) := by decide +kernel
theorem dX11_laysCheck_52 : decode cX11_laysCheck 52 = .ok (.iastore, 1) := by decide +kernel
theorem dX11_laysCheck_53 : decode cX11_laysCheck 53 = .ok (.return_, 1) := by decide +kernel
theorem dX11_checkAt_0 : decode cX11_checkAt 0 = .ok (.aload_n 0, 1) := by decide +kernel
theorem dX11_checkAt_1 : decode cX11_checkAt 1 = .ok (.iload_n 1, 1) := by decide +kernel
theorem dX11_checkAt_2 : decode cX11_checkAt 2 = .ok (.invokevirtual 100, 3) := by decide +kernel
theorem dX11_checkAt_5 : decode cX11_checkAt 5 = .ok (.iconst 4, 1) := by decide +kernel
theorem dX11_checkAt_6 : decode cX11_checkAt 6 = .ok (.iadd, 1) := by decide +kernel
theorem dX11_checkAt_7 : decode cX11_checkAt 7 = .ok (.iconst 4, 1) := by decide +kernel
theorem dX11_checkAt_8 : decode cX11_checkAt 8 = .ok (.iadd, 1) := by decide +kernel
theorem dX11_checkAt_9 : decode cX11_checkAt 9 = .ok (.aload_n 0, 1) := by decide +kernel
theorem dX11_checkAt_10 : decode cX11_checkAt 10 = .ok (.getfield 7, 3) := by decide +kernel
theorem dX11_checkAt_13 : decode cX11_checkAt 13 = .ok (.aload_n 0, 1) := by decide +kernel
theorem dX11_checkAt_14 : decode cX11_checkAt 14 = .ok (.iload_n 1, 1) := by decide +kernel
theorem dX11_checkAt_15 : decode cX11_checkAt 15 = .ok (.invokevirtual 100, 3) := by decide +kernel
theorem dX11_checkAt_18 : decode cX11_checkAt 18 = .ok (.iaload, 1) := by decide +kernel
theorem dX11_checkAt_19 : decode cX11_checkAt 19 = .ok (.iadd, 1) := by decide +kernel
theorem dX11_checkAt_20 : decode cX11_checkAt 20 = .ok (.istore_n 2, 1) := by decide +kernel
theorem dX11_checkAt_21 : decode cX11_checkAt 21 = .ok (.sipush 256, 3) := by decide +kernel
theorem dX11_checkAt_24 : decode cX11_checkAt 24 = .ok (.aload_n 0, 1) := by decide +kernel
theorem dX11_checkAt_25 : decode cX11_checkAt 25 = .ok (.getfield 7, 3) := by decide +kernel
theorem dX11_checkAt_28 : decode cX11_checkAt 28 = .ok (.iload_n 2, 1) := by decide +kernel
theorem dX11_checkAt_29 : decode cX11_checkAt 29 = .ok (.iaload, 1) := by decide +kernel
theorem dX11_checkAt_30 : decode cX11_checkAt 30 = .ok (.imul, 1) := by decide +kernel
theorem dX11_checkAt_31 : decode cX11_checkAt 31 = .ok (.aload_n 0, 1) := by decide +kernel
theorem dX11_checkAt_32 : decode cX11_checkAt 32 = .ok (.getfield 7, 3) := by decide +kernel
theorem dX11_checkAt_35 : decode cX11_checkAt 35 = .ok (.iload_n 2, 1) := by decide +kernel
theorem dX11_checkAt_36 : decode cX11_checkAt 36 = .ok (.iconst 1, 1) := by decide +kernel
theorem dX11_checkAt_37 : decode cX11_checkAt 37 = .ok (.iadd, 1) := by decide +kernel
theorem dX11_checkAt_38 : decode cX11_checkAt 38 = .ok (.iaload, 1) := by decide +kernel
theorem dX11_checkAt_39 : decode cX11_checkAt 39 = .ok (.iadd, 1) := by decide +kernel
theorem dX11_checkAt_40 : decode cX11_checkAt 40 = .ok (.ireturn, 1) := by decide +kernel
theorem dX11_clockNow_0 : decode cX11_clockNow 0 = .ok (.ldc2_w 61, 3) := by decide +kernel
theorem dX11_clockNow_3 : decode cX11_clockNow 3 = .ok (.aload_n 0, 1) := by decide +kernel
theorem dX11_clockNow_4 : decode cX11_clockNow 4 = .ok (.getfield 7, 3) := by decide +kernel
theorem dX11_clockNow_7 : decode cX11_clockNow 7 = .ok (.iconst 3, 1) := by decide +kernel
theorem dX11_clockNow_8 : decode cX11_clockNow 8 = .ok (.iaload, 1) := by decide +kernel
theorem dX11_clockNow_9 : decode cX11_clockNow 9 = .ok (.i2l, 1) := by decide +kernel
theorem dX11_clockNow_10 : decode cX11_clockNow 10 = .ok (.lmul, 1) := by decide +kernel
theorem dX11_clockNow_11 : decode cX11_clockNow 11 = .ok (.aload_n 0, 1) := by decide +kernel
theorem dX11_clockNow_12 : decode cX11_clockNow 12 = .ok (.getfield 7, 3) := by decide +kernel
theorem dX11_clockNow_15 : decode cX11_clockNow 15 = .ok (.iconst 3, 1) := by decide +kernel
theorem dX11_clockNow_16 : decode cX11_clockNow 16 = .ok (.iaload, 1) := by decide +kernel
theorem dX11_clockNow_17 : decode cX11_clockNow 17 = .ok (.i2l, 1) := by decide +kernel
theorem dX11_clockNow_18 : decode cX11_clockNow 18 = .ok (.aload_n 0, 1) := by decide +kernel
theorem dX11_clockNow_19 : decode cX11_clockNow 19 = .ok (.getfield 7, 3) := by decide +kernel
theorem dX11_clockNow_22 : decode cX11_clockNow 22 = .ok (.iconst 1, 1) := by decide +kernel
theorem dX11_clockNow_23 : decode cX11_clockNow 23 = .ok (.iaload, 1) := by decide +kernel
theorem dX11_clockNow_24 : decode cX11_clockNow 24 = .ok (.i2l, 1) := by decide +kernel
theorem dX11_clockNow_25 : decode cX11_clockNow 25 = .ok (.lmul, 1) := by decide +kernel
theorem dX11_clockNow_26 : decode cX11_clockNow 26 = .ok (.ldc2_w 108, 3) := by decide +kernel
theorem dX11_clockNow_29 : decode cX11_clockNow 29 = .ok (.invokestatic 110, 3) := by decide +kernel
theorem dX11_clockNow_32 : decode cX11_clockNow 32 = .ok (.ladd, 1) := by decide +kernel
theorem dX11_clockNow_33 : decode cX11_clockNow 33 = .ok (.lreturn, 1) := by decide +kernel
theorem dX11_sendsOne_0 : decode cX11_sendsOne 0 = .ok (.aload_n 0, 1) := by decide +kernel
theorem dX11_sendsOne_1 : decode cX11_sendsOne 1 = .ok (.invokevirtual 95, 3) := by decide +kernel
theorem dX11_sendsOne_4 : decode cX11_sendsOne 4 = .ok (.istore_n 1, 1) := by decide +kernel
theorem dX11_sendsOne_5 : decode cX11_sendsOne 5 = .ok (.aload_n 0, 1) := by decide +kernel
theorem dX11_sendsOne_6 : decode cX11_sendsOne 6 = .ok (.getfield 7, 3) := by decide +kernel
theorem dX11_sendsOne_9 : decode cX11_sendsOne 9 = .ok (.iconst 0, 1) := by decide +kernel
theorem dX11_sendsOne_10 : decode cX11_sendsOne 10 = .ok (.iaload, 1) := by decide +kernel
theorem dX11_sendsOne_11 : decode cX11_sendsOne 11 = .ok (.istore_n 2, 1) := by decide +kernel
theorem dX11_sendsOne_12 : decode cX11_sendsOne 12 = .ok (.aload_n 0, 1) := by decide +kernel
theorem dX11_sendsOne_13 : decode cX11_sendsOne 13 = .ok (.getfield 7, 3) := by decide +kernel
theorem dX11_sendsOne_16 : decode cX11_sendsOne 16 = .ok (.sipush 382, 3) := by decide +kernel
theorem dX11_sendsOne_19 : decode cX11_sendsOne 19 = .ok (.iaload, 1) := by decide +kernel
theorem dX11_sendsOne_20 : decode cX11_sendsOne 20 = .ok (.istore_n 3, 1) := by decide +kernel
theorem dX11_sendsOne_21 : decode cX11_sendsOne 21 = .ok (.aload_n 0, 1) := by decide +kernel
theorem dX11_sendsOne_22 : decode cX11_sendsOne 22 = .ok (.iload_n 3, 1) := by decide +kernel
theorem dX11_sendsOne_23 : decode cX11_sendsOne 23 = .ok (.invokevirtual 100, 3) := by decide +kernel
theorem dX11_sendsOne_26 : decode cX11_sendsOne 26 = .ok (.istore 4, 2) := by decide +kernel
theorem dX11_sendsOne_28 : decode cX11_sendsOne 28 = .ok (.iconst 5, 1) := by decide +kernel
theorem dX11_sendsOne_29 : decode cX11_sendsOne 29 = .ok (.iload_n 1, 1) := by decide +kernel
theorem dX11_sendsOne_30 : decode cX11_sendsOne 30 = .ok (.iconst (-1), 1) := by decide +kernel
theorem dX11_sendsOne_31 : decode cX11_sendsOne 31 = .ok (.if_icmp .ne 7, 3) := by decide +kernel
theorem dX11_sendsOne_34 : decode cX11_sendsOne 34 = .ok (.iconst 4, 1) := by decide +kernel
theorem dX11_sendsOne_35 : decode cX11_sendsOne 35 = .ok (.goto 4, 3) := by decide +kernel
theorem dX11_sendsOne_38 : decode cX11_sendsOne 38 = .ok (.iload_n 1, 1) := by decide +kernel
theorem dX11_sendsOne_39 : decode cX11_sendsOne 39 = .ok (.iadd, 1) := by decide +kernel
theorem dX11_sendsOne_40 : decode cX11_sendsOne 40 = .ok (.istore 5, 2) := by decide +kernel
theorem dX11_sendsOne_42 : decode cX11_sendsOne 42 = .ok (.iconst 0, 1) := by decide +kernel
theorem dX11_sendsOne_43 : decode cX11_sendsOne 43 = .ok (.istore 6, 2) := by decide +kernel
theorem dX11_sendsOne_45 : decode cX11_sendsOne 45 = .ok (.iload 6, 2) := by decide +kernel
theorem dX11_sendsOne_47 : decode cX11_sendsOne 47 = .ok (.iconst 4, 1) := by decide +kernel
theorem dX11_sendsOne_48 : decode cX11_sendsOne 48 = .ok (.if_icmp .ge 50, 3) := by decide +kernel
theorem dX11_sendsOne_51 : decode cX11_sendsOne 51 = .ok (.aload_n 0, 1) := by decide +kernel
theorem dX11_sendsOne_52 : decode cX11_sendsOne 52 = .ok (.getfield 7, 3) := by decide +kernel
theorem dX11_sendsOne_55 : decode cX11_sendsOne 55 = .ok (.bipush 37, 2) := by decide +kernel
theorem dX11_sendsOne_57 : decode cX11_sendsOne 57 = .ok (.iload 6, 2) := by decide +kernel
theorem dX11_sendsOne_59 : decode cX11_sendsOne 59 = .ok (.iadd, 1) := by decide +kernel
theorem dX11_sendsOne_60 : decode cX11_sendsOne 60 = .ok (.iload 6, 2) := by decide +kernel
theorem dX11_sendsOne_62 : decode cX11_sendsOne 62 = .ok (.iload_n 1, 1) := by decide +kernel
theorem dX11_sendsOne_63 : decode cX11_sendsOne 63 = .ok (.if_icmp .eq 27, 3) := by decide +kernel
theorem dX11_sendsOne_66 : decode cX11_sendsOne 66 = .ok (.aload_n 0, 1) := by decide +kernel
theorem dX11_sendsOne_67 : decode cX11_sendsOne 67 = .ok (.iload 6, 2) := by decide +kernel
theorem dX11_sendsOne_69 : decode cX11_sendsOne 69 = .ok (.invokevirtual 41, 3) := by decide +kernel
theorem dX11_sendsOne_72 : decode cX11_sendsOne 72 = .ok (.ifCond .le 18, 3) := by decide +kernel
theorem dX11_sendsOne_75 : decode cX11_sendsOne 75 = .ok (.aload_n 0, 1) := by decide +kernel
theorem dX11_sendsOne_76 : decode cX11_sendsOne 76 = .ok (.getfield 7, 3) := by decide +kernel
theorem dX11_sendsOne_79 : decode cX11_sendsOne 79 = .ok (.bipush 37, 2) := by decide +kernel
theorem dX11_sendsOne_81 : decode cX11_sendsOne 81 = .ok (.iload 6, 2) := by decide +kernel
theorem dX11_sendsOne_83 : decode cX11_sendsOne 83 = .ok (.iadd, 1) := by decide +kernel
theorem dX11_sendsOne_84 : decode cX11_sendsOne 84 = .ok (.iaload, 1) := by decide +kernel
theorem dX11_sendsOne_85 : decode cX11_sendsOne 85 = .ok (.iconst 1, 1) := by decide +kernel
theorem dX11_sendsOne_86 : decode cX11_sendsOne 86 = .ok (.iadd, 1) := by decide +kernel
theorem dX11_sendsOne_87 : decode cX11_sendsOne 87 = .ok (.goto 4, 3) := by decide +kernel
theorem dX11_sendsOne_90 : decode cX11_sendsOne 90 = .ok (.iconst 0, 1) := by decide +kernel
theorem dX11_sendsOne_91 : decode cX11_sendsOne 91 = .ok (.iastore, 1) := by decide +kernel
theorem dX11_sendsOne_92 : decode cX11_sendsOne 92 = .ok (.iinc 6 1, 3) := by decide +kernel
theorem dX11_sendsOne_95 : decode cX11_sendsOne 95 = .ok (.goto (-50), 3) := by decide +kernel
theorem dX11_sendsOne_98 : decode cX11_sendsOne 98 = .ok (.aload_n 0, 1) := by decide +kernel
theorem dX11_sendsOne_99 : decode cX11_sendsOne 99 = .ok (.getfield 7, 3) := by decide +kernel
theorem dX11_sendsOne_102 : decode cX11_sendsOne 102 = .ok (.iload 4, 2) := by decide +kernel
theorem dX11_sendsOne_104 : decode cX11_sendsOne 104 = .ok (.iload_n 2, 1) := by decide +kernel
theorem dX11_sendsOne_105 : decode cX11_sendsOne 105 = .ok (.iastore, 1) := by decide +kernel
theorem dX11_sendsOne_106 : decode cX11_sendsOne 106 = .ok (.aload_n 0, 1) := by decide +kernel
theorem dX11_sendsOne_107 : decode cX11_sendsOne 107 = .ok (.getfield 7, 3) := by decide +kernel
theorem dX11_sendsOne_110 : decode cX11_sendsOne 110 = .ok (.iload 4, 2) := by decide +kernel
theorem dX11_sendsOne_112 : decode cX11_sendsOne 112 = .ok (.iconst 1, 1) := by decide +kernel
theorem dX11_sendsOne_113 : decode cX11_sendsOne 113 = .ok (.iadd, 1) := by decide +kernel
theorem dX11_sendsOne_114 : decode cX11_sendsOne 114 = .ok (.iconst 0, 1) := by decide +kernel
theorem dX11_sendsOne_115 : decode cX11_sendsOne 115 = .ok (.iastore, 1) := by decide +kernel
theorem dX11_sendsOne_116 : decode cX11_sendsOne 116 = .ok (.aload_n 0, 1) := by decide +kernel
theorem dX11_sendsOne_117 : decode cX11_sendsOne 117 = .ok (.getfield 7, 3) := by decide +kernel
theorem dX11_sendsOne_120 : decode cX11_sendsOne 120 = .ok (.iload 4, 2) := by decide +kernel
theorem dX11_sendsOne_122 : decode cX11_sendsOne 122 = .ok (.iconst 2, 1) := by decide +kernel
theorem dX11_sendsOne_123 : decode cX11_sendsOne 123 = .ok (.iadd, 1) := by decide +kernel
theorem dX11_sendsOne_124 : decode cX11_sendsOne 124 = .ok (.aload_n 0, 1) := by decide +kernel
theorem dX11_sendsOne_125 : decode cX11_sendsOne 125 = .ok (.invokevirtual 114, 3) := by decide +kernel
theorem dX11_sendsOne_128 : decode cX11_sendsOne 128 = .ok (.l2i, 1) := by decide +kernel
theorem dX11_sendsOne_129 : decode cX11_sendsOne 129 = .ok (.iastore, 1) := by decide +kernel
theorem dX11_sendsOne_130 : decode cX11_sendsOne 130 = .ok (.aload_n 0, 1) := by decide +kernel
theorem dX11_sendsOne_131 : decode cX11_sendsOne 131 = .ok (.getfield 7, 3) := by decide +kernel
theorem dX11_sendsOne_134 : decode cX11_sendsOne 134 = .ok (.iload 4, 2) := by decide +kernel
theorem dX11_sendsOne_136 : decode cX11_sendsOne 136 = .ok (.iconst 3, 1) := by decide +kernel
theorem dX11_sendsOne_137 : decode cX11_sendsOne 137 = .ok (.iadd, 1) := by decide +kernel
theorem dX11_sendsOne_138 : decode cX11_sendsOne 138 = .ok (.sipush 1000, 3) := by decide +kernel
theorem dX11_sendsOne_141 : decode cX11_sendsOne 141 = .ok (.aload_n 0, 1) := by decide +kernel
theorem dX11_sendsOne_142 : decode cX11_sendsOne 142 = .ok (.getfield 7, 3) := by decide +kernel
theorem dX11_sendsOne_145 : decode cX11_sendsOne 145 = .ok (.iconst 3, 1) := by decide +kernel
theorem dX11_sendsOne_146 : decode cX11_sendsOne 146 = .ok (.iaload, 1) := by decide +kernel
theorem dX11_sendsOne_147 : decode cX11_sendsOne 147 = .ok (.imul, 1) := by decide +kernel
theorem dX11_sendsOne_148 : decode cX11_sendsOne 148 = .ok (.aload_n 0, 1) := by decide +kernel
theorem dX11_sendsOne_149 : decode cX11_sendsOne 149 = .ok (.getfield 7, 3) := by decide +kernel
theorem dX11_sendsOne_152 : decode cX11_sendsOne 152 = .ok (.iconst 2, 1) := by decide +kernel
theorem dX11_sendsOne_153 : decode cX11_sendsOne 153 = .ok (.iaload, 1) := by decide +kernel
theorem dX11_sendsOne_154 : decode cX11_sendsOne 154 = .ok (.iadd, 1) := by decide +kernel
theorem dX11_sendsOne_155 : decode cX11_sendsOne 155 = .ok (.iastore, 1) := by decide +kernel
theorem dX11_sendsOne_156 : decode cX11_sendsOne 156 = .ok (.aload_n 0, 1) := by decide +kernel
theorem dX11_sendsOne_157 : decode cX11_sendsOne 157 = .ok (.getfield 7, 3) := by decide +kernel
theorem dX11_sendsOne_160 : decode cX11_sendsOne 160 = .ok (.iload 4, 2) := by decide +kernel
theorem dX11_sendsOne_162 : decode cX11_sendsOne 162 = .ok (.iconst 4, 1) := by decide +kernel
theorem dX11_sendsOne_163 : decode cX11_sendsOne 163 = .ok (.iadd, 1) := by decide +kernel
theorem dX11_sendsOne_164 : decode cX11_sendsOne 164 = .ok (.aload_n 0, 1) := by decide +kernel
theorem dX11_sendsOne_165 : decode cX11_sendsOne 165 = .ok (.getfield 7, 3) := by decide +kernel
theorem dX11_sendsOne_168 : decode cX11_sendsOne 168 = .ok (.iconst 4, 1) := by decide +kernel
theorem dX11_sendsOne_169 : decode cX11_sendsOne 169 = .ok (.iaload, 1) := by decide +kernel
theorem dX11_sendsOne_170 : decode cX11_sendsOne 170 = .ok (.iastore, 1) := by decide +kernel
theorem dX11_sendsOne_171 : decode cX11_sendsOne 171 = .ok (.aload_n 0, 1) := by decide +kernel
theorem dX11_sendsOne_172 : decode cX11_sendsOne 172 = .ok (.getfield 7, 3) := by decide +kernel
theorem dX11_sendsOne_175 : decode cX11_sendsOne 175 = .ok (.iload 4, 2) := by decide +kernel
theorem dX11_sendsOne_177 : decode cX11_sendsOne 177 = .ok (.iconst 4, 1) := by decide +kernel
theorem dX11_sendsOne_178 : decode cX11_sendsOne 178 = .ok (.iadd, 1) := by decide +kernel
theorem dX11_sendsOne_179 : decode cX11_sendsOne 179 = .ok (.iconst 1, 1) := by decide +kernel
theorem dX11_sendsOne_180 : decode cX11_sendsOne 180 = .ok (.iadd, 1) := by decide +kernel
theorem dX11_sendsOne_181 : decode cX11_sendsOne 181 = .ok (.iload_n 1, 1) := by decide +kernel
theorem dX11_sendsOne_182 : decode cX11_sendsOne 182 = .ok (.iconst (-1), 1) := by decide +kernel
theorem dX11_sendsOne_183 : decode cX11_sendsOne 183 = .ok (.if_icmp .ne 8, 3) := by decide +kernel
theorem dX11_sendsOne_186 : decode cX11_sendsOne 186 = .ok (.bipush 7, 2) := by decide +kernel
theorem dX11_sendsOne_188 : decode cX11_sendsOne 188 = .ok (.goto 4, 3) := by decide +kernel
theorem dX11_sendsOne_191 : decode cX11_sendsOne 191 = .ok (.iload_n 1, 1) := by decide +kernel
theorem dX11_sendsOne_192 : decode cX11_sendsOne 192 = .ok (.iastore, 1) := by decide +kernel
theorem dX11_sendsOne_193 : decode cX11_sendsOne 193 = .ok (.aload_n 0, 1) := by decide +kernel
theorem dX11_sendsOne_194 : decode cX11_sendsOne 194 = .ok (.getfield 7, 3) := by decide +kernel
theorem dX11_sendsOne_197 : decode cX11_sendsOne 197 = .ok (.iload 4, 2) := by decide +kernel
theorem dX11_sendsOne_199 : decode cX11_sendsOne 199 = .ok (.iconst 4, 1) := by decide +kernel
theorem dX11_sendsOne_200 : decode cX11_sendsOne 200 = .ok (.iadd, 1) := by decide +kernel
theorem dX11_sendsOne_201 : decode cX11_sendsOne 201 = .ok (.iconst 2, 1) := by decide +kernel
theorem dX11_sendsOne_202 : decode cX11_sendsOne 202 = .ok (.iadd, 1) := by decide +kernel
theorem dX11_sendsOne_203 : decode cX11_sendsOne 203 = .ok (.aload_n 0, 1) := by decide +kernel
theorem dX11_sendsOne_204 : decode cX11_sendsOne 204 = .ok (.getfield 7, 3) := by decide +kernel
theorem dX11_sendsOne_207 : decode cX11_sendsOne 207 = .ok (.iload 5, 2) := by decide +kernel
theorem dX11_sendsOne_209 : decode cX11_sendsOne 209 = .ok (.iaload, 1) := by decide +kernel
theorem dX11_sendsOne_210 : decode cX11_sendsOne 210 = .ok (.iastore, 1) := by decide +kernel
theorem dX11_sendsOne_211 : decode cX11_sendsOne 211 = .ok (.aload_n 0, 1) := by decide +kernel
theorem dX11_sendsOne_212 : decode cX11_sendsOne 212 = .ok (.getfield 7, 3) := by decide +kernel
theorem dX11_sendsOne_215 : decode cX11_sendsOne 215 = .ok (.iload 4, 2) := by decide +kernel
theorem dX11_sendsOne_217 : decode cX11_sendsOne 217 = .ok (.iconst 4, 1) := by decide +kernel
theorem dX11_sendsOne_218 : decode cX11_sendsOne 218 = .ok (.iadd, 1) := by decide +kernel
theorem dX11_sendsOne_219 : decode cX11_sendsOne 219 = .ok (.iconst 3, 1) := by decide +kernel
theorem dX11_sendsOne_220 : decode cX11_sendsOne 220 = .ok (.iadd, 1) := by decide +kernel
theorem dX11_sendsOne_221 : decode cX11_sendsOne 221 = .ok (.iload_n 1, 1) := by decide +kernel
theorem dX11_sendsOne_222 : decode cX11_sendsOne 222 = .ok (.iconst (-1), 1) := by decide +kernel
theorem dX11_sendsOne_223 : decode cX11_sendsOne 223 = .ok (.if_icmp .ne 9, 3) := by decide +kernel
theorem dX11_sendsOne_226 : decode cX11_sendsOne 226 = .ok (.sipush 254, 3) := by decide +kernel
theorem dX11_sendsOne_229 : decode cX11_sendsOne 229 = .ok (.goto 6, 3) := by decide +kernel
theorem dX11_sendsOne_232 : decode cX11_sendsOne 232 = .ok (.sipush 255, 3) := by decide +kernel
theorem dX11_sendsOne_235 : decode cX11_sendsOne 235 = .ok (.iastore, 1) := by decide +kernel
theorem dX11_sendsOne_236 : decode cX11_sendsOne 236 = .ok (.iload_n 1, 1) := by decide +kernel
theorem dX11_sendsOne_237 : decode cX11_sendsOne 237 = .ok (.iconst (-1), 1) := by decide +kernel
theorem dX11_sendsOne_238 : decode cX11_sendsOne 238 = .ok (.if_icmp .eq 44, 3) := by decide +kernel
theorem dX11_sendsOne_241 : decode cX11_sendsOne 241 = .ok (.aload_n 0, 1) := by decide +kernel
theorem dX11_sendsOne_242 : decode cX11_sendsOne 242 = .ok (.iload_n 1, 1) := by decide +kernel
theorem dX11_sendsOne_243 : decode cX11_sendsOne 243 = .ok (.invokevirtual 41, 3) := by decide +kernel
theorem dX11_sendsOne_246 : decode cX11_sendsOne 246 = .ok (.iload_n 2, 1) := by decide +kernel
theorem dX11_sendsOne_247 : decode cX11_sendsOne 247 = .ok (.if_icmp .ge 35, 3) := by decide +kernel
theorem dX11_sendsOne_250 : decode cX11_sendsOne 250 = .ok (.iload_n 2, 1) := by decide +kernel
theorem dX11_sendsOne_251 : decode cX11_sendsOne 251 = .ok (.aload_n 0, 1) := by decide +kernel
theorem dX11_sendsOne_252 : decode cX11_sendsOne 252 = .ok (.iload_n 1, 1) := by decide +kernel
theorem dX11_sendsOne_253 : decode cX11_sendsOne 253 = .ok (.invokevirtual 41, 3) := by decide +kernel
theorem dX11_sendsOne_256 : decode cX11_sendsOne 256 = .ok (.isub, 1) := by decide +kernel
theorem dX11_sendsOne_257 : decode cX11_sendsOne 257 = .ok (.istore 6, 2) := by decide +kernel
theorem dX11_sendsOne_259 : decode cX11_sendsOne 259 = .ok (.aload_n 0, 1) := by decide +kernel
theorem dX11_sendsOne_260 : decode cX11_sendsOne 260 = .ok (.iload_n 1, 1) := by decide +kernel
theorem dX11_sendsOne_261 : decode cX11_sendsOne 261 = .ok (.bipush 15, 2) := by decide +kernel
theorem dX11_sendsOne_263 : decode cX11_sendsOne 263 = .ok (.iconst 0, 1) := by decide +kernel
theorem dX11_sendsOne_264 : decode cX11_sendsOne 264 = .ok (.iload 6, 2) := by decide +kernel
theorem dX11_sendsOne_266 : decode cX11_sendsOne 266 = .ok (.iconst 4, 1) := by decide +kernel
theorem dX11_sendsOne_267 : decode cX11_sendsOne 267 = .ok (.if_icmp .ge 7, 3) := by decide +kernel
theorem dX11_sendsOne_270 : decode cX11_sendsOne 270 = .ok (.iconst 1, 1) := by decide +kernel
theorem dX11_sendsOne_271 : decode cX11_sendsOne 271 = .ok (.goto 7, 3) := by decide +kernel
theorem dX11_sendsOne_274 : decode cX11_sendsOne 274 = .ok (.iload 6, 2) := by decide +kernel
theorem dX11_sendsOne_276 : decode cX11_sendsOne 276 = .ok (.iconst 3, 1) := by decide +kernel
theorem dX11_sendsOne_277 : decode cX11_sendsOne 277 = .ok (.isub, 1) := by decide +kernel
theorem dX11_sendsOne_278 : decode cX11_sendsOne 278 = .ok (.iconst 0, 1) := by decide +kernel
theorem dX11_sendsOne_279 : decode cX11_sendsOne 279 = .ok (.invokevirtual 72, 3) := by decide +kernel
theorem dX11_sendsOne_282 : decode cX11_sendsOne 282 = .ok (.iconst 0, 1) := by decide +kernel
theorem dX11_sendsOne_283 : decode cX11_sendsOne 283 = .ok (.istore 6, 2) := by decide +kernel
theorem dX11_sendsOne_285 : decode cX11_sendsOne 285 = .ok (.iload 6, 2) := by decide +kernel
theorem dX11_sendsOne_287 : decode cX11_sendsOne 287 = .ok (.iload_n 2, 1) := by decide +kernel
theorem dX11_sendsOne_288 : decode cX11_sendsOne 288 = .ok (.if_icmp .ge 85, 3) := by decide +kernel
theorem dX11_sendsOne_291 : decode cX11_sendsOne 291 = .ok (.iload_n 1, 1) := by decide +kernel
theorem dX11_sendsOne_292 : decode cX11_sendsOne 292 = .ok (.iconst (-1), 1) := by decide +kernel
theorem dX11_sendsOne_293 : decode cX11_sendsOne 293 = .ok (.if_icmp .eq 45, 3) := by decide +kernel
theorem dX11_sendsOne_296 : decode cX11_sendsOne 296 = .ok (.aload_n 0, 1) := by decide +kernel
theorem dX11_sendsOne_297 : decode cX11_sendsOne 297 = .ok (.getfield 7, 3) := by decide +kernel
theorem dX11_sendsOne_300 : decode cX11_sendsOne 300 = .ok (.bipush 58, 2) := by decide +kernel
theorem dX11_sendsOne_302 : decode cX11_sendsOne 302 = .ok (.iload_n 1, 1) := by decide +kernel
theorem dX11_sendsOne_303 : decode cX11_sendsOne 303 = .ok (.iadd, 1) := by decide +kernel
theorem dX11_sendsOne_304 : decode cX11_sendsOne 304 = .ok (.iaload, 1) := by decide +kernel
theorem dX11_sendsOne_305 : decode cX11_sendsOne 305 = .ok (.ifCond .ne 33, 3) := by decide +kernel
theorem dX11_sendsOne_308 : decode cX11_sendsOne 308 = .ok (.aload_n 0, 1) := by decide +kernel
theorem dX11_sendsOne_309 : decode cX11_sendsOne 309 = .ok (.getfield 7, 3) := by decide +kernel
theorem dX11_sendsOne_312 : decode cX11_sendsOne 312 = .ok (.iload 4, 2) := by decide +kernel
theorem dX11_sendsOne_314 : decode cX11_sendsOne 314 = .ok (.iconst 4, 1) := by decide +kernel
theorem dX11_sendsOne_315 : decode cX11_sendsOne 315 = .ok (.iadd, 1) := by decide +kernel
theorem dX11_sendsOne_316 : decode cX11_sendsOne 316 = .ok (.iconst 3, 1) := by decide +kernel
theorem dX11_sendsOne_317 : decode cX11_sendsOne 317 = .ok (.iadd, 1) := by decide +kernel
theorem dX11_sendsOne_318 : decode cX11_sendsOne 318 = .ok (.iaload, 1) := by decide +kernel
theorem dX11_sendsOne_319 : decode cX11_sendsOne 319 = .ok (.sipush 255, 3) := by decide +kernel
theorem dX11_sendsOne_322 : decode cX11_sendsOne 322 = .ok (.if_icmp .ne 16, 3) := by decide +kernel
theorem dX11_sendsOne_325 : decode cX11_sendsOne 325 = .ok (.aload_n 0, 1) := by decide +kernel
theorem dX11_sendsOne_326 : decode cX11_sendsOne 326 = .ok (.getfield 7, 3) := by decide +kernel
theorem dX11_sendsOne_329 : decode cX11_sendsOne 329 = .ok (.iload 4, 2) := by decide +kernel
theorem dX11_sendsOne_331 : decode cX11_sendsOne 331 = .ok (.iconst 4, 1) := by decide +kernel
theorem dX11_sendsOne_332 : decode cX11_sendsOne 332 = .ok (.iadd, 1) := by decide +kernel
theorem dX11_sendsOne_333 : decode cX11_sendsOne 333 = .ok (.iconst 3, 1) := by decide +kernel
theorem dX11_sendsOne_334 : decode cX11_sendsOne 334 = .ok (.iadd, 1) := by decide +kernel
theorem dX11_sendsOne_335 : decode cX11_sendsOne 335 = .ok (.iload 6, 2) := by decide +kernel
theorem dX11_sendsOne_337 : decode cX11_sendsOne 337 = .ok (.iastore, 1) := by decide +kernel
theorem dX11_sendsOne_338 : decode cX11_sendsOne 338 = .ok (.aload_n 0, 1) := by decide +kernel
theorem dX11_sendsOne_339 : decode cX11_sendsOne 339 = .ok (.getfield 7, 3) := by decide +kernel
theorem dX11_sendsOne_342 : decode cX11_sendsOne 342 = .ok (.iload 4, 2) := by decide +kernel
theorem dX11_sendsOne_344 : decode cX11_sendsOne 344 = .ok (.iconst 4, 1) := by decide +kernel
theorem dX11_sendsOne_345 : decode cX11_sendsOne 345 = .ok (.iadd, 1) := by decide +kernel
theorem dX11_sendsOne_346 : decode cX11_sendsOne 346 = .ok (.iconst 4, 1) := by decide +kernel
theorem dX11_sendsOne_347 : decode cX11_sendsOne 347 = .ok (.iadd, 1) := by decide +kernel
theorem dX11_sendsOne_348 : decode cX11_sendsOne 348 = .ok (.iload 6, 2) := by decide +kernel
theorem dX11_sendsOne_350 : decode cX11_sendsOne 350 = .ok (.iadd, 1) := by decide +kernel
theorem dX11_sendsOne_351 : decode cX11_sendsOne 351 = .ok (.iload_n 1, 1) := by decide +kernel
theorem dX11_sendsOne_352 : decode cX11_sendsOne 352 = .ok (.iconst (-1), 1) := by decide +kernel
theorem dX11_sendsOne_353 : decode cX11_sendsOne 353 = .ok (.if_icmp .ne 8, 3) := by decide +kernel
theorem dX11_sendsOne_356 : decode cX11_sendsOne 356 = .ok (.bipush 85, 2) := by decide +kernel
theorem dX11_sendsOne_358 : decode cX11_sendsOne 358 = .ok (.goto 8, 3) := by decide +kernel
theorem dX11_sendsOne_361 : decode cX11_sendsOne 361 = .ok (.aload_n 0, 1) := by decide +kernel
theorem dX11_sendsOne_362 : decode cX11_sendsOne 362 = .ok (.iload_n 1, 1) := by decide +kernel
theorem dX11_sendsOne_363 : decode cX11_sendsOne 363 = .ok (.invokevirtual 118, 3) := by decide +kernel
theorem dX11_sendsOne_366 : decode cX11_sendsOne 366 = .ok (.iastore, 1) := by decide +kernel
theorem dX11_sendsOne_367 : decode cX11_sendsOne 367 = .ok (.iinc 6 1, 3) := by decide +kernel
theorem dX11_sendsOne_370 : decode cX11_sendsOne 370 = .ok (.goto (-85), 3) := by decide +kernel
theorem dX11_sendsOne_373 : decode cX11_sendsOne 373 = .ok (.aload_n 0, 1) := by decide +kernel
theorem dX11_sendsOne_374 : decode cX11_sendsOne 374 = .ok (.iload_n 3, 1) := by decide +kernel
theorem dX11_sendsOne_375 : decode cX11_sendsOne 375 = .ok (.invokevirtual 121, 3) := by decide +kernel
theorem dX11_sendsOne_378 : decode cX11_sendsOne 378 = .ok (.aload_n 0, 1) := by decide +kernel
theorem dX11_sendsOne_379 : decode cX11_sendsOne 379 = .ok (.getfield 7, 3) := by decide +kernel
theorem dX11_sendsOne_382 : decode cX11_sendsOne 382 = .ok (.sipush 382, 3) := by decide +kernel
theorem dX11_sendsOne_385 : decode cX11_sendsOne 385 = .ok (.dup2, 1) := by decide +kernel
theorem dX11_sendsOne_386 : decode cX11_sendsOne 386 = .ok (.iaload, 1) := by decide +kernel
theorem dX11_sendsOne_387 : decode cX11_sendsOne 387 = .ok (.iconst 1, 1) := by decide +kernel
theorem dX11_sendsOne_388 : decode cX11_sendsOne 388 = .ok (.iadd, 1) := by decide +kernel
theorem dX11_sendsOne_389 : decode cX11_sendsOne 389 = .ok (.iastore, 1) := by decide +kernel
theorem dX11_sendsOne_390 : decode cX11_sendsOne 390 = .ok (.aload_n 0, 1) := by decide +kernel
theorem dX11_sendsOne_391 : decode cX11_sendsOne 391 = .ok (.getfield 7, 3) := by decide +kernel
theorem dX11_sendsOne_394 : decode cX11_sendsOne 394 = .ok (.iconst 4, 1) := by decide +kernel
theorem dX11_sendsOne_395 : decode cX11_sendsOne 395 = .ok (.aload_n 0, 1) := by decide +kernel
theorem dX11_sendsOne_396 : decode cX11_sendsOne 396 = .ok (.getfield 7, 3) := by decide +kernel
theorem dX11_sendsOne_399 : decode cX11_sendsOne 399 = .ok (.iconst 4, 1) := by decide +kernel
theorem dX11_sendsOne_400 : decode cX11_sendsOne 400 = .ok (.iaload, 1) := by decide +kernel
theorem dX11_sendsOne_401 : decode cX11_sendsOne 401 = .ok (.iconst 1, 1) := by decide +kernel
theorem dX11_sendsOne_402 : decode cX11_sendsOne 402 = .ok (.iadd, 1) := by decide +kernel
theorem dX11_sendsOne_403 : decode cX11_sendsOne 403 = .ok (.sipush 256, 3) := by decide +kernel
theorem dX11_sendsOne_406 : decode cX11_sendsOne 406 = .ok (.irem, 1) := by decide +kernel
theorem dX11_sendsOne_407 : decode cX11_sendsOne 407 = .ok (.iastore, 1) := by decide +kernel
theorem dX11_sendsOne_408 : decode cX11_sendsOne 408 = .ok (.aload_n 0, 1) := by decide +kernel
theorem dX11_sendsOne_409 : decode cX11_sendsOne 409 = .ok (.getfield 7, 3) := by decide +kernel
theorem dX11_sendsOne_412 : decode cX11_sendsOne 412 = .ok (.bipush 41, 2) := by decide +kernel
theorem dX11_sendsOne_414 : decode cX11_sendsOne 414 = .ok (.iload 5, 2) := by decide +kernel
theorem dX11_sendsOne_416 : decode cX11_sendsOne 416 = .ok (.iadd, 1) := by decide +kernel
theorem dX11_sendsOne_417 : decode cX11_sendsOne 417 = .ok (.iconst 5, 1) := by decide +kernel
theorem dX11_sendsOne_418 : decode cX11_sendsOne 418 = .ok (.isub, 1) := by decide +kernel
theorem dX11_sendsOne_419 : decode cX11_sendsOne 419 = .ok (.dup2, 1) := by decide +kernel
theorem dX11_sendsOne_420 : decode cX11_sendsOne 420 = .ok (.iaload, 1) := by decide +kernel
theorem dX11_sendsOne_421 : decode cX11_sendsOne 421 = .ok (.iconst 1, 1) := by decide +kernel
theorem dX11_sendsOne_422 : decode cX11_sendsOne 422 = .ok (.iadd, 1) := by decide +kernel
theorem dX11_sendsOne_423 : decode cX11_sendsOne 423 = .ok (.iastore, 1) := by decide +kernel
theorem dX11_sendsOne_424 : decode cX11_sendsOne 424 = .ok (.aload_n 0, 1) := by decide +kernel
theorem dX11_sendsOne_425 : decode cX11_sendsOne 425 = .ok (.getfield 7, 3) := by decide +kernel
theorem dX11_sendsOne_428 : decode cX11_sendsOne 428 = .ok (.iload 5, 2) := by decide +kernel
theorem dX11_sendsOne_430 : decode cX11_sendsOne 430 = .ok (.aload_n 0, 1) := by decide +kernel
theorem dX11_sendsOne_431 : decode cX11_sendsOne 431 = .ok (.getfield 7, 3) := by decide +kernel
theorem dX11_sendsOne_434 : decode cX11_sendsOne 434 = .ok (.iload 5, 2) := by decide +kernel
theorem dX11_sendsOne_436 : decode cX11_sendsOne 436 = .ok (.iaload, 1) := by decide +kernel
theorem dX11_sendsOne_437 : decode cX11_sendsOne 437 = .ok (.iconst 1, 1) := by decide +kernel
theorem dX11_sendsOne_438 : decode cX11_sendsOne 438 = .ok (.iadd, 1) := by decide +kernel
theorem dX11_sendsOne_439 : decode cX11_sendsOne 439 = .ok (.sipush 256, 3) := by decide +kernel
theorem dX11_sendsOne_442 : decode cX11_sendsOne 442 = .ok (.irem, 1) := by decide +kernel
theorem dX11_sendsOne_443 : decode cX11_sendsOne 443 = .ok (.iastore, 1) := by decide +kernel
theorem dX11_sendsOne_444 : decode cX11_sendsOne 444 = .ok (.aload_n 0, 1) := by decide +kernel
theorem dX11_sendsOne_445 : decode cX11_sendsOne 445 = .ok (.getfield 7, 3) := by decide +kernel
theorem dX11_sendsOne_448 : decode cX11_sendsOne 448 = .ok (.iconst 3, 1) := by decide +kernel
theorem dX11_sendsOne_449 : decode cX11_sendsOne 449 = .ok (.dup2, 1) := by decide +kernel
theorem dX11_sendsOne_450 : decode cX11_sendsOne 450 = .ok (.iaload, 1) := by decide +kernel
theorem dX11_sendsOne_451 : decode cX11_sendsOne 451 = .ok (.iconst 1, 1) := by decide +kernel
theorem dX11_sendsOne_452 : decode cX11_sendsOne 452 = .ok (.iadd, 1) := by decide +kernel
theorem dX11_sendsOne_453 : decode cX11_sendsOne 453 = .ok (.iastore, 1) := by decide +kernel
theorem dX11_sendsOne_454 : decode cX11_sendsOne 454 = .ok (.iload_n 1, 1) := by decide +kernel
theorem dX11_sendsOne_455 : decode cX11_sendsOne 455 = .ok (.iconst (-1), 1) := by decide +kernel
theorem dX11_sendsOne_456 : decode cX11_sendsOne 456 = .ok (.if_icmp .eq 7, 3) := by decide +kernel
theorem dX11_sendsOne_459 : decode cX11_sendsOne 459 = .ok (.iconst 1, 1) := by decide +kernel
theorem dX11_sendsOne_460 : decode cX11_sendsOne 460 = .ok (.goto 4, 3) := by decide +kernel
theorem dX11_sendsOne_463 : decode cX11_sendsOne 463 = .ok (.iconst 0, 1) := by decide +kernel
theorem dX11_sendsOne_464 : decode cX11_sendsOne 464 = .ok (.ireturn, 1) := by decide +kernel
theorem dX11_send_0 : decode cX11_send 0 = .ok (.aload_n 0, 1) := by decide +kernel
theorem dX11_send_1 : decode cX11_send 1 = .ok (.iload_n 1, 1) := by decide +kernel
theorem dX11_send_2 : decode cX11_send 2 = .ok (.i2l, 1) := by decide +kernel
theorem dX11_send_3 : decode cX11_send 3 = .ok (.lconst 1, 1) := by decide +kernel
theorem dX11_send_4 : decode cX11_send 4 = .ok (.ldc2_w 125, 3) := by decide +kernel
theorem dX11_send_7 : decode cX11_send 7 = .ok (.invokestatic 23, 3) := by decide +kernel
theorem dX11_send_10 : decode cX11_send 10 = .ok (.ifCond .ne 7, 3) := by decide +kernel
theorem dX11_send_13 : decode cX11_send 13 = .ok (.iconst 1, 1) := by decide +kernel
theorem dX11_send_14 : decode cX11_send 14 = .ok (.goto 23, 3) := by decide +kernel
theorem dX11_send_17 : decode cX11_send 17 = .ok (.aload_n 0, 1) := by decide +kernel
theorem dX11_send_18 : decode cX11_send 18 = .ok (.getfield 7, 3) := by decide +kernel
theorem dX11_send_21 : decode cX11_send 21 = .ok (.sipush 382, 3) := by decide +kernel
theorem dX11_send_24 : decode cX11_send 24 = .ok (.iaload, 1) := by decide +kernel
theorem dX11_send_25 : decode cX11_send 25 = .ok (.iload_n 1, 1) := by decide +kernel
theorem dX11_send_26 : decode cX11_send 26 = .ok (.iadd, 1) := by decide +kernel
theorem dX11_send_27 : decode cX11_send 27 = .ok (.bipush 60, 2) := by decide +kernel
theorem dX11_send_29 : decode cX11_send 29 = .ok (.if_icmp .le 7, 3) := by decide +kernel
theorem dX11_send_32 : decode cX11_send 32 = .ok (.iconst 2, 1) := by decide +kernel
theorem dX11_send_33 : decode cX11_send 33 = .ok (.goto 4, 3) := by decide +kernel
theorem dX11_send_36 : decode cX11_send 36 = .ok (.iconst 0, 1) := by decide +kernel
theorem dX11_send_37 : decode cX11_send 37 = .ok (.invokevirtual 30, 3) := by decide +kernel
theorem dX11_send_40 : decode cX11_send 40 = .ok (.ifCond .eq 5, 3) := by decide +kernel
theorem dX11_send_43 : decode cX11_send 43 = .ok (.iconst 0, 1) := by decide +kernel
theorem dX11_send_44 : decode cX11_send 44 = .ok (.ireturn, 1) := by decide +kernel
theorem dX11_send_45 : decode cX11_send 45 = .ok (.aload_n 0, 1) := by decide +kernel
theorem dX11_send_46 : decode cX11_send 46 = .ok (.invokevirtual 49, 3) := by decide +kernel
theorem dX11_send_49 : decode cX11_send 49 = .ok (.iconst 0, 1) := by decide +kernel
theorem dX11_send_50 : decode cX11_send 50 = .ok (.istore_n 2, 1) := by decide +kernel
theorem dX11_send_51 : decode cX11_send 51 = .ok (.iconst 0, 1) := by decide +kernel
theorem dX11_send_52 : decode cX11_send 52 = .ok (.istore_n 3, 1) := by decide +kernel
theorem dX11_send_53 : decode cX11_send 53 = .ok (.iload_n 3, 1) := by decide +kernel
theorem dX11_send_54 : decode cX11_send 54 = .ok (.iload_n 1, 1) := by decide +kernel
theorem dX11_send_55 : decode cX11_send 55 = .ok (.if_icmp .ge 24, 3) := by decide +kernel
theorem dX11_send_58 : decode cX11_send 58 = .ok (.iload_n 2, 1) := by decide +kernel
theorem dX11_send_59 : decode cX11_send 59 = .ok (.aload_n 0, 1) := by decide +kernel
theorem dX11_send_60 : decode cX11_send 60 = .ok (.invokevirtual 127, 3) := by decide +kernel
theorem dX11_send_63 : decode cX11_send 63 = .ok (.ifCond .eq 7, 3) := by decide +kernel
theorem dX11_send_66 : decode cX11_send 66 = .ok (.iconst 1, 1) := by decide +kernel
theorem dX11_send_67 : decode cX11_send 67 = .ok (.goto 4, 3) := by decide +kernel
theorem dX11_send_70 : decode cX11_send 70 = .ok (.iconst 0, 1) := by decide +kernel
theorem dX11_send_71 : decode cX11_send 71 = .ok (.iadd, 1) := by decide +kernel
theorem dX11_send_72 : decode cX11_send 72 = .ok (.istore_n 2, 1) := by decide +kernel
theorem dX11_send_73 : decode cX11_send 73 = .ok (.iinc 3 1, 3) := by decide +kernel
theorem dX11_send_76 : decode cX11_send 76 = .ok (.goto (-23), 3) := by decide +kernel
theorem dX11_send_79 : decode cX11_send 79 = .ok (.iload_n 2, 1) := by decide +kernel
theorem dX11_send_80 : decode cX11_send 80 = .ok (.ireturn, 1) := by decide +kernel
theorem dX11_slot_0 : decode cX11_slot 0 = .ok (.aload_n 0, 1) := by decide +kernel
theorem dX11_slot_1 : decode cX11_slot 1 = .ok (.iconst 0, 1) := by decide +kernel
theorem dX11_slot_2 : decode cX11_slot 2 = .ok (.putfield 17, 3) := by decide +kernel
theorem dX11_slot_5 : decode cX11_slot 5 = .ok (.aload_n 0, 1) := by decide +kernel
theorem dX11_slot_6 : decode cX11_slot 6 = .ok (.getfield 7, 3) := by decide +kernel
theorem dX11_slot_9 : decode cX11_slot 9 = .ok (.iconst 3, 1) := by decide +kernel
theorem dX11_slot_10 : decode cX11_slot 10 = .ok (.iaload, 1) := by decide +kernel
theorem dX11_slot_11 : decode cX11_slot 11 = .ok (.ireturn, 1) := by decide +kernel
theorem dX11_sentOf_0 : decode cX11_sentOf 0 = .ok (.iload_n 1, 1) := by decide +kernel
theorem dX11_sentOf_1 : decode cX11_sentOf 1 = .ok (.bipush 7, 2) := by decide +kernel
theorem dX11_sentOf_3 : decode cX11_sentOf 3 = .ok (.if_icmp .ne 28, 3) := by decide +kernel
theorem dX11_sentOf_6 : decode cX11_sentOf 6 = .ok (.iload_n 2, 1) := by decide +kernel
theorem dX11_sentOf_7 : decode cX11_sentOf 7 = .ok (.ifCond .ne 13, 3) := by decide +kernel
theorem dX11_sentOf_10 : decode cX11_sentOf 10 = .ok (.aload_n 0, 1) := by decide +kernel
theorem dX11_sentOf_11 : decode cX11_sentOf 11 = .ok (.getfield 7, 3) := by decide +kernel
theorem dX11_sentOf_14 : decode cX11_sentOf 14 = .ok (.bipush 45, 2) := by decide +kernel
theorem dX11_sentOf_16 : decode cX11_sentOf 16 = .ok (.iaload, 1) := by decide +kernel
theorem dX11_sentOf_17 : decode cX11_sentOf 17 = .ok (.goto 13, 3) := by decide +kernel
theorem dX11_sentOf_20 : decode cX11_sentOf 20 = .ok (.iload_n 2, 1) := by decide +kernel
theorem dX11_sentOf_21 : decode cX11_sentOf 21 = .ok (.iconst 1, 1) := by decide +kernel
theorem dX11_sentOf_22 : decode cX11_sentOf 22 = .ok (.if_icmp .ne 7, 3) := by decide +kernel
theorem dX11_sentOf_25 : decode cX11_sentOf 25 = .ok (.iconst 0, 1) := by decide +kernel
theorem dX11_sentOf_26 : decode cX11_sentOf 26 = .ok (.goto 4, 3) := by decide +kernel
theorem dX11_sentOf_29 : decode cX11_sentOf 29 = .ok (.iconst (-1), 1) := by decide +kernel
theorem dX11_sentOf_30 : decode cX11_sentOf 30 = .ok (.ireturn, 1) := by decide +kernel
theorem dX11_sentOf_31 : decode cX11_sentOf 31 = .ok (.iload_n 2, 1) := by decide +kernel
theorem dX11_sentOf_32 : decode cX11_sentOf 32 = .ok (.ifCond .ne 15, 3) := by decide +kernel
theorem dX11_sentOf_35 : decode cX11_sentOf 35 = .ok (.aload_n 0, 1) := by decide +kernel
theorem dX11_sentOf_36 : decode cX11_sentOf 36 = .ok (.getfield 7, 3) := by decide +kernel
theorem dX11_sentOf_39 : decode cX11_sentOf 39 = .ok (.bipush 41, 2) := by decide +kernel
theorem dX11_sentOf_41 : decode cX11_sentOf 41 = .ok (.iload_n 1, 1) := by decide +kernel
theorem dX11_sentOf_42 : decode cX11_sentOf 42 = .ok (.iadd, 1) := by decide +kernel
theorem dX11_sentOf_43 : decode cX11_sentOf 43 = .ok (.iaload, 1) := by decide +kernel
theorem dX11_sentOf_44 : decode cX11_sentOf 44 = .ok (.goto 29, 3) := by decide +kernel
theorem dX11_sentOf_47 : decode cX11_sentOf 47 = .ok (.iload_n 2, 1) := by decide +kernel
theorem dX11_sentOf_48 : decode cX11_sentOf 48 = .ok (.iconst 1, 1) := by decide +kernel
theorem dX11_sentOf_49 : decode cX11_sentOf 49 = .ok (.if_icmp .ne 15, 3) := by decide +kernel
theorem dX11_sentOf_52 : decode cX11_sentOf 52 = .ok (.aload_n 0, 1) := by decide +kernel
theorem dX11_sentOf_53 : decode cX11_sentOf 53 = .ok (.getfield 7, 3) := by decide +kernel
theorem dX11_sentOf_56 : decode cX11_sentOf 56 = .ok (.bipush 46, 2) := by decide +kernel
theorem dX11_sentOf_58 : decode cX11_sentOf 58 = .ok (.iload_n 1, 1) := by decide +kernel
theorem dX11_sentOf_59 : decode cX11_sentOf 59 = .ok (.iadd, 1) := by decide +kernel
theorem dX11_sentOf_60 : decode cX11_sentOf 60 = .ok (.iaload, 1) := by decide +kernel
theorem dX11_sentOf_61 : decode cX11_sentOf 61 = .ok (.goto 12, 3) := by decide +kernel
theorem dX11_sentOf_64 : decode cX11_sentOf 64 = .ok (.aload_n 0, 1) := by decide +kernel
theorem dX11_sentOf_65 : decode cX11_sentOf 65 = .ok (.getfield 7, 3) := by decide +kernel
theorem dX11_sentOf_68 : decode cX11_sentOf 68 = .ok (.bipush 50, 2) := by decide +kernel
theorem dX11_sentOf_70 : decode cX11_sentOf 70 = .ok (.iload_n 1, 1) := by decide +kernel
theorem dX11_sentOf_71 : decode cX11_sentOf 71 = .ok (.iadd, 1) := by decide +kernel
theorem dX11_sentOf_72 : decode cX11_sentOf 72 = .ok (.iaload, 1) := by decide +kernel
theorem dX11_sentOf_73 : decode cX11_sentOf 73 = .ok (.ireturn, 1) := by decide +kernel
theorem dX11_sent_0 : decode cX11_sent 0 = .ok (.aload_n 0, 1) := by decide +kernel
theorem dX11_sent_1 : decode cX11_sent 1 = .ok (.iload_n 1, 1) := by decide +kernel
theorem dX11_sent_2 : decode cX11_sent 2 = .ok (.invokestatic 52, 3) := by decide +kernel
theorem dX11_sent_5 : decode cX11_sent 5 = .ok (.ifCond .ne 13, 3) := by decide +kernel
theorem dX11_sent_8 : decode cX11_sent 8 = .ok (.iload_n 1, 1) := by decide +kernel
theorem dX11_sent_9 : decode cX11_sent 9 = .ok (.bipush 7, 2) := by decide +kernel
theorem dX11_sent_11 : decode cX11_sent 11 = .ok (.if_icmp .eq 7, 3) := by decide +kernel
theorem dX11_sent_14 : decode cX11_sent 14 = .ok (.iconst 1, 1) := by decide +kernel
theorem dX11_sent_15 : decode cX11_sent 15 = .ok (.goto 20, 3) := by decide +kernel
theorem dX11_sent_18 : decode cX11_sent 18 = .ok (.iload_n 2, 1) := by decide +kernel
theorem dX11_sent_19 : decode cX11_sent 19 = .ok (.i2l, 1) := by decide +kernel
theorem dX11_sent_20 : decode cX11_sent 20 = .ok (.lconst 0, 1) := by decide +kernel
theorem dX11_sent_21 : decode cX11_sent 21 = .ok (.ldc2_w 76, 3) := by decide +kernel
theorem dX11_sent_24 : decode cX11_sent 24 = .ok (.invokestatic 23, 3) := by decide +kernel
theorem dX11_sent_27 : decode cX11_sent 27 = .ok (.ifCond .eq 7, 3) := by decide +kernel
theorem dX11_sent_30 : decode cX11_sent 30 = .ok (.iconst 0, 1) := by decide +kernel
theorem dX11_sent_31 : decode cX11_sent 31 = .ok (.goto 4, 3) := by decide +kernel
theorem dX11_sent_34 : decode cX11_sent 34 = .ok (.iconst 2, 1) := by decide +kernel
theorem dX11_sent_35 : decode cX11_sent 35 = .ok (.invokevirtual 30, 3) := by decide +kernel
theorem dX11_sent_38 : decode cX11_sent 38 = .ok (.ifCond .eq 7, 3) := by decide +kernel
theorem dX11_sent_41 : decode cX11_sent 41 = .ok (.iconst 0, 1) := by decide +kernel
theorem dX11_sent_42 : decode cX11_sent 42 = .ok (.goto 9, 3) := by decide +kernel
theorem dX11_sent_45 : decode cX11_sent 45 = .ok (.aload_n 0, 1) := by decide +kernel
theorem dX11_sent_46 : decode cX11_sent 46 = .ok (.iload_n 1, 1) := by decide +kernel
theorem dX11_sent_47 : decode cX11_sent 47 = .ok (.iload_n 2, 1) := by decide +kernel
theorem dX11_sent_48 : decode cX11_sent 48 = .ok (.invokevirtual 131, 3) := by decide +kernel
theorem dX11_sent_51 : decode cX11_sent 51 = .ok (.ireturn, 1) := by decide +kernel
theorem dX11_wire_0 : decode cX11_wire 0 = .ok (.aload_n 0, 1) := by decide +kernel
theorem dX11_wire_1 : decode cX11_wire 1 = .ok (.iconst 0, 1) := by decide +kernel
theorem dX11_wire_2 : decode cX11_wire 2 = .ok (.putfield 17, 3) := by decide +kernel
theorem dX11_wire_5 : decode cX11_wire 5 = .ok (.aload_n 0, 1) := by decide +kernel
theorem dX11_wire_6 : decode cX11_wire 6 = .ok (.getfield 7, 3) := by decide +kernel
theorem dX11_wire_9 : decode cX11_wire 9 = .ok (.sipush 382, 3) := by decide +kernel
theorem dX11_wire_12 : decode cX11_wire 12 = .ok (.iaload, 1) := by decide +kernel
theorem dX11_wire_13 : decode cX11_wire 13 = .ok (.ireturn, 1) := by decide +kernel
theorem dX11_isFrame_0 : decode cX11_isFrame 0 = .ok (.iload_n 1, 1) := by decide +kernel
theorem dX11_isFrame_1 : decode cX11_isFrame 1 = .ok (.i2l, 1) := by decide +kernel
theorem dX11_isFrame_2 : decode cX11_isFrame 2 = .ok (.lconst 0, 1) := by decide +kernel
theorem dX11_isFrame_3 : decode cX11_isFrame 3 = .ok (.aload_n 0, 1) := by decide +kernel
theorem dX11_isFrame_4 : decode cX11_isFrame 4 = .ok (.getfield 7, 3) := by decide +kernel
theorem dX11_isFrame_7 : decode cX11_isFrame 7 = .ok (.sipush 382, 3) := by decide +kernel
theorem dX11_isFrame_10 : decode cX11_isFrame 10 = .ok (.iaload, 1) := by decide +kernel
theorem dX11_isFrame_11 : decode cX11_isFrame 11 = .ok (.iconst 1, 1) := by decide +kernel
theorem dX11_isFrame_12 : decode cX11_isFrame 12 = .ok (.isub, 1) := by decide +kernel
theorem dX11_isFrame_13 : decode cX11_isFrame 13 = .ok (.i2l, 1) := by decide +kernel
theorem dX11_isFrame_14 : decode cX11_isFrame 14 = .ok (.invokestatic 23, 3) := by decide +kernel
theorem dX11_isFrame_17 : decode cX11_isFrame 17 = .ok (.ireturn, 1) := by decide +kernel
theorem dX11_isByte_0 : decode cX11_isByte 0 = .ok (.aload_n 0, 1) := by decide +kernel
theorem dX11_isByte_1 : decode cX11_isByte 1 = .ok (.iload_n 1, 1) := by decide +kernel
theorem dX11_isByte_2 : decode cX11_isByte 2 = .ok (.invokevirtual 134, 3) := by decide +kernel
theorem dX11_isByte_5 : decode cX11_isByte 5 = .ok (.ifCond .eq 29, 3) := by decide +kernel
theorem dX11_isByte_8 : decode cX11_isByte 8 = .ok (.iload_n 2, 1) := by decide +kernel
theorem dX11_isByte_9 : decode cX11_isByte 9 = .ok (.i2l, 1) := by decide +kernel
theorem dX11_isByte_10 : decode cX11_isByte 10 = .ok (.lconst 0, 1) := by decide +kernel
theorem dX11_isByte_11 : decode cX11_isByte 11 = .ok (.aload_n 0, 1) := by decide +kernel
theorem dX11_isByte_12 : decode cX11_isByte 12 = .ok (.getfield 7, 3) := by decide +kernel
theorem dX11_isByte_15 : decode cX11_isByte 15 = .ok (.aload_n 0, 1) := by decide +kernel
theorem dX11_isByte_16 : decode cX11_isByte 16 = .ok (.iload_n 1, 1) := by decide +kernel
theorem dX11_isByte_17 : decode cX11_isByte 17 = .ok (.invokevirtual 100, 3) := by decide +kernel
theorem dX11_isByte_20 : decode cX11_isByte 20 = .ok (.iaload, 1) := by decide +kernel
theorem dX11_isByte_21 : decode cX11_isByte 21 = .ok (.iconst 5, 1) := by decide +kernel
theorem dX11_isByte_22 : decode cX11_isByte 22 = .ok (.iadd, 1) := by decide +kernel
theorem dX11_isByte_23 : decode cX11_isByte 23 = .ok (.i2l, 1) := by decide +kernel
theorem dX11_isByte_24 : decode cX11_isByte 24 = .ok (.invokestatic 23, 3) := by decide +kernel
theorem dX11_isByte_27 : decode cX11_isByte 27 = .ok (.ifCond .eq 7, 3) := by decide +kernel
theorem dX11_isByte_30 : decode cX11_isByte 30 = .ok (.iconst 1, 1) := by decide +kernel
theorem dX11_isByte_31 : decode cX11_isByte 31 = .ok (.goto 4, 3) := by decide +kernel
theorem dX11_isByte_34 : decode cX11_isByte 34 = .ok (.iconst 0, 1) := by decide +kernel
theorem dX11_isByte_35 : decode cX11_isByte 35 = .ok (.ireturn, 1) := by decide +kernel
theorem dX11_frameByte_0 : decode cX11_frameByte 0 = .ok (.aload_n 0, 1) := by decide +kernel
theorem dX11_frameByte_1 : decode cX11_frameByte 1 = .ok (.aload_n 0, 1) := by decide +kernel
theorem dX11_frameByte_2 : decode cX11_frameByte 2 = .ok (.iload_n 1, 1) := by decide +kernel
theorem dX11_frameByte_3 : decode cX11_frameByte 3 = .ok (.iload_n 2, 1) := by decide +kernel
theorem dX11_frameByte_4 : decode cX11_frameByte 4 = .ok (.invokevirtual 137, 3) := by decide +kernel
theorem dX11_frameByte_7 : decode cX11_frameByte 7 = .ok (.ifCond .eq 7, 3) := by decide +kernel
theorem dX11_frameByte_10 : decode cX11_frameByte 10 = .ok (.iconst 0, 1) := by decide +kernel
theorem dX11_frameByte_11 : decode cX11_frameByte 11 = .ok (.goto 4, 3) := by decide +kernel
theorem dX11_frameByte_14 : decode cX11_frameByte 14 = .ok (.iconst 1, 1) := by decide +kernel
theorem dX11_frameByte_15 : decode cX11_frameByte 15 = .ok (.invokevirtual 30, 3) := by decide +kernel
theorem dX11_frameByte_18 : decode cX11_frameByte 18 = .ok (.ifCond .eq 7, 3) := by decide +kernel
theorem dX11_frameByte_21 : decode cX11_frameByte 21 = .ok (.iconst 0, 1) := by decide +kernel
theorem dX11_frameByte_22 : decode cX11_frameByte 22 = .ok (.goto 17, 3) := by decide +kernel
theorem dX11_frameByte_25 : decode cX11_frameByte 25 = .ok (.aload_n 0, 1) := by decide +kernel
theorem dX11_frameByte_26 : decode cX11_frameByte 26 = .ok (.getfield 7, 3) := by decide +kernel
theorem dX11_frameByte_29 : decode cX11_frameByte 29 = .ok (.aload_n 0, 1) := by decide +kernel
theorem dX11_frameByte_30 : decode cX11_frameByte 30 = .ok (.iload_n 1, 1) := by decide +kernel
theorem dX11_frameByte_31 : decode cX11_frameByte 31 = .ok (.invokevirtual 100, 3) := by decide +kernel
theorem dX11_frameByte_34 : decode cX11_frameByte 34 = .ok (.iconst 4, 1) := by decide +kernel
theorem dX11_frameByte_35 : decode cX11_frameByte 35 = .ok (.iadd, 1) := by decide +kernel
theorem dX11_frameByte_36 : decode cX11_frameByte 36 = .ok (.iload_n 2, 1) := by decide +kernel
theorem dX11_frameByte_37 : decode cX11_frameByte 37 = .ok (.iadd, 1) := by decide +kernel
theorem dX11_frameByte_38 : decode cX11_frameByte 38 = .ok (.iaload, 1) := by decide +kernel
theorem dX11_frameByte_39 : decode cX11_frameByte 39 = .ok (.ireturn, 1) := by decide +kernel
theorem dX11_corrupt_0 : decode cX11_corrupt 0 = .ok (.aload_n 0, 1) := by decide +kernel
theorem dX11_corrupt_1 : decode cX11_corrupt 1 = .ok (.aload_n 0, 1) := by decide +kernel
theorem dX11_corrupt_2 : decode cX11_corrupt 2 = .ok (.iload_n 1, 1) := by decide +kernel
theorem dX11_corrupt_3 : decode cX11_corrupt 3 = .ok (.iload_n 2, 1) := by decide +kernel
theorem dX11_corrupt_4 : decode cX11_corrupt 4 = .ok (.invokevirtual 137, 3) := by decide +kernel
theorem dX11_corrupt_7 : decode cX11_corrupt 7 = .ok (.ifCond .ne 7, 3) := by decide +kernel
theorem dX11_corrupt_10 : decode cX11_corrupt 10 = .ok (.iconst 1, 1) := by decide +kernel
theorem dX11_corrupt_11 : decode cX11_corrupt 11 = .ok (.goto 20, 3) := by decide +kernel
theorem dX11_corrupt_14 : decode cX11_corrupt 14 = .ok (.iload_n 3, 1) := by decide +kernel
theorem dX11_corrupt_15 : decode cX11_corrupt 15 = .ok (.i2l, 1) := by decide +kernel
theorem dX11_corrupt_16 : decode cX11_corrupt 16 = .ok (.lconst 1, 1) := by decide +kernel
theorem dX11_corrupt_17 : decode cX11_corrupt 17 = .ok (.ldc2_w 67, 3) := by decide +kernel
theorem dX11_corrupt_20 : decode cX11_corrupt 20 = .ok (.invokestatic 23, 3) := by decide +kernel
theorem dX11_corrupt_23 : decode cX11_corrupt 23 = .ok (.ifCond .eq 7, 3) := by decide +kernel
theorem dX11_corrupt_26 : decode cX11_corrupt 26 = .ok (.iconst 0, 1) := by decide +kernel
theorem dX11_corrupt_27 : decode cX11_corrupt 27 = .ok (.goto 4, 3) := by decide +kernel
theorem dX11_corrupt_30 : decode cX11_corrupt 30 = .ok (.iconst 2, 1) := by decide +kernel
theorem dX11_corrupt_31 : decode cX11_corrupt 31 = .ok (.invokevirtual 30, 3) := by decide +kernel
theorem dX11_corrupt_34 : decode cX11_corrupt 34 = .ok (.ifCond .eq 5, 3) := by decide +kernel
theorem dX11_corrupt_37 : decode cX11_corrupt 37 = .ok (.iconst 0, 1) := by decide +kernel
theorem dX11_corrupt_38 : decode cX11_corrupt 38 = .ok (.ireturn, 1) := by decide +kernel
theorem dX11_corrupt_39 : decode cX11_corrupt 39 = .ok (.aload_n 0, 1) := by decide +kernel
theorem dX11_corrupt_40 : decode cX11_corrupt 40 = .ok (.invokevirtual 49, 3) := by decide +kernel
theorem dX11_corrupt_43 : decode cX11_corrupt 43 = .ok (.aload_n 0, 1) := by decide +kernel
theorem dX11_corrupt_44 : decode cX11_corrupt 44 = .ok (.getfield 7, 3) := by decide +kernel
theorem dX11_corrupt_47 : decode cX11_corrupt 47 = .ok (.aload_n 0, 1) := by decide +kernel
theorem dX11_corrupt_48 : decode cX11_corrupt 48 = .ok (.iload_n 1, 1) := by decide +kernel
theorem dX11_corrupt_49 : decode cX11_corrupt 49 = .ok (.invokevirtual 100, 3) := by decide +kernel
theorem dX11_corrupt_52 : decode cX11_corrupt 52 = .ok (.iconst 4, 1) := by decide +kernel
theorem dX11_corrupt_53 : decode cX11_corrupt 53 = .ok (.iadd, 1) := by decide +kernel
theorem dX11_corrupt_54 : decode cX11_corrupt 54 = .ok (.iload_n 2, 1) := by decide +kernel
theorem dX11_corrupt_55 : decode cX11_corrupt 55 = .ok (.iadd, 1) := by decide +kernel
theorem dX11_corrupt_56 : decode cX11_corrupt 56 = .ok (.dup2, 1) := by decide +kernel
theorem dX11_corrupt_57 : decode cX11_corrupt 57 = .ok (.iaload, 1) := by decide +kernel
theorem dX11_corrupt_58 : decode cX11_corrupt 58 = .ok (.iload_n 3, 1) := by decide +kernel
theorem dX11_corrupt_59 : decode cX11_corrupt 59 = .ok (.ixor, 1) := by decide +kernel
theorem dX11_corrupt_60 : decode cX11_corrupt 60 = .ok (.iastore, 1) := by decide +kernel
theorem dX11_corrupt_61 : decode cX11_corrupt 61 = .ok (.aload_n 0, 1) := by decide +kernel
theorem dX11_corrupt_62 : decode cX11_corrupt 62 = .ok (.getfield 7, 3) := by decide +kernel
theorem dX11_corrupt_65 : decode cX11_corrupt 65 = .ok (.aload_n 0, 1) := by decide +kernel
theorem dX11_corrupt_66 : decode cX11_corrupt 66 = .ok (.iload_n 1, 1) := by decide +kernel
theorem dX11_corrupt_67 : decode cX11_corrupt 67 = .ok (.invokevirtual 100, 3) := by decide +kernel
theorem dX11_corrupt_70 : decode cX11_corrupt 70 = .ok (.iconst 4, 1) := by decide +kernel
theorem dX11_corrupt_71 : decode cX11_corrupt 71 = .ok (.iadd, 1) := by decide +kernel
theorem dX11_corrupt_72 : decode cX11_corrupt 72 = .ok (.iload_n 2, 1) := by decide +kernel
theorem dX11_corrupt_73 : decode cX11_corrupt 73 = .ok (.iadd, 1) := by decide +kernel
theorem dX11_corrupt_74 : decode cX11_corrupt 74 = .ok (.iaload, 1) := by decide +kernel
theorem dX11_corrupt_75 : decode cX11_corrupt 75 = .ok (.ireturn, 1) := by decide +kernel
theorem dX11_repair_0 : decode cX11_repair 0 = .ok (.aload_n 0, 1) := by decide +kernel
theorem dX11_repair_1 : decode cX11_repair 1 = .ok (.aload_n 0, 1) := by decide +kernel
theorem dX11_repair_2 : decode cX11_repair 2 = .ok (.iload_n 1, 1) := by decide +kernel
theorem dX11_repair_3 : decode cX11_repair 3 = .ok (.invokevirtual 134, 3) := by decide +kernel
theorem dX11_repair_6 : decode cX11_repair 6 = .ok (.ifCond .eq 7, 3) := by decide +kernel
theorem dX11_repair_9 : decode cX11_repair 9 = .ok (.iconst 0, 1) := by decide +kernel
theorem dX11_repair_10 : decode cX11_repair 10 = .ok (.goto 4, 3) := by decide +kernel
theorem dX11_repair_13 : decode cX11_repair 13 = .ok (.iconst 1, 1) := by decide +kernel
theorem dX11_repair_14 : decode cX11_repair 14 = .ok (.invokevirtual 30, 3) := by decide +kernel
theorem dX11_repair_17 : decode cX11_repair 17 = .ok (.ifCond .eq 5, 3) := by decide +kernel
theorem dX11_repair_20 : decode cX11_repair 20 = .ok (.iconst 0, 1) := by decide +kernel
theorem dX11_repair_21 : decode cX11_repair 21 = .ok (.ireturn, 1) := by decide +kernel
theorem dX11_repair_22 : decode cX11_repair 22 = .ok (.aload_n 0, 1) := by decide +kernel
theorem dX11_repair_23 : decode cX11_repair 23 = .ok (.invokevirtual 49, 3) := by decide +kernel
theorem dX11_repair_26 : decode cX11_repair 26 = .ok (.aload_n 0, 1) := by decide +kernel
theorem dX11_repair_27 : decode cX11_repair 27 = .ok (.iload_n 1, 1) := by decide +kernel
theorem dX11_repair_28 : decode cX11_repair 28 = .ok (.invokevirtual 121, 3) := by decide +kernel
theorem dX11_repair_31 : decode cX11_repair 31 = .ok (.aload_n 0, 1) := by decide +kernel
theorem dX11_repair_32 : decode cX11_repair 32 = .ok (.iload_n 1, 1) := by decide +kernel
theorem dX11_repair_33 : decode cX11_repair 33 = .ok (.invokevirtual 141, 3) := by decide +kernel
theorem dX11_repair_36 : decode cX11_repair 36 = .ok (.ireturn, 1) := by decide +kernel
theorem dX11_lose_0 : decode cX11_lose 0 = .ok (.aload_n 0, 1) := by decide +kernel
theorem dX11_lose_1 : decode cX11_lose 1 = .ok (.aload_n 0, 1) := by decide +kernel
theorem dX11_lose_2 : decode cX11_lose 2 = .ok (.iload_n 1, 1) := by decide +kernel
theorem dX11_lose_3 : decode cX11_lose 3 = .ok (.invokevirtual 134, 3) := by decide +kernel
theorem dX11_lose_6 : decode cX11_lose 6 = .ok (.ifCond .eq 7, 3) := by decide +kernel
theorem dX11_lose_9 : decode cX11_lose 9 = .ok (.iconst 0, 1) := by decide +kernel
theorem dX11_lose_10 : decode cX11_lose 10 = .ok (.goto 4, 3) := by decide +kernel
theorem dX11_lose_13 : decode cX11_lose 13 = .ok (.iconst 1, 1) := by decide +kernel
theorem dX11_lose_14 : decode cX11_lose 14 = .ok (.invokevirtual 30, 3) := by decide +kernel
theorem dX11_lose_17 : decode cX11_lose 17 = .ok (.ifCond .eq 5, 3) := by decide +kernel
theorem dX11_lose_20 : decode cX11_lose 20 = .ok (.iconst 0, 1) := by decide +kernel
theorem dX11_lose_21 : decode cX11_lose 21 = .ok (.ireturn, 1) := by decide +kernel
theorem dX11_lose_22 : decode cX11_lose 22 = .ok (.aload_n 0, 1) := by decide +kernel
theorem dX11_lose_23 : decode cX11_lose 23 = .ok (.invokevirtual 49, 3) := by decide +kernel
theorem dX11_lose_26 : decode cX11_lose 26 = .ok (.aload_n 0, 1) := by decide +kernel
theorem dX11_lose_27 : decode cX11_lose 27 = .ok (.getfield 7, 3) := by decide +kernel
theorem dX11_lose_30 : decode cX11_lose 30 = .ok (.aload_n 0, 1) := by decide +kernel
theorem dX11_lose_31 : decode cX11_lose 31 = .ok (.iload_n 1, 1) := by decide +kernel
theorem dX11_lose_32 : decode cX11_lose 32 = .ok (.invokevirtual 100, 3) := by decide +kernel
theorem dX11_lose_35 : decode cX11_lose 35 = .ok (.iconst 1, 1) := by decide +kernel
theorem dX11_lose_36 : decode cX11_lose 36 = .ok (.iadd, 1) := by decide +kernel
theorem dX11_lose_37 : decode cX11_lose 37 = .ok (.iconst 1, 1) := by decide +kernel
theorem dX11_lose_38 : decode cX11_lose 38 = .ok (.iastore, 1) := by decide +kernel
theorem dX11_lose_39 : decode cX11_lose 39 = .ok (.iconst 0, 1) := by decide +kernel
theorem dX11_lose_40 : decode cX11_lose 40 = .ok (.istore_n 2, 1) := by decide +kernel
theorem dX11_lose_41 : decode cX11_lose 41 = .ok (.iconst 0, 1) := by decide +kernel
theorem dX11_lose_42 : decode cX11_lose 42 = .ok (.istore_n 3, 1) := by decide +kernel
theorem dX11_lose_43 : decode cX11_lose 43 = .ok (.iload_n 3, 1) := by decide +kernel
theorem dX11_lose_44 : decode cX11_lose 44 = .ok (.aload_n 0, 1) := by decide +kernel
theorem dX11_lose_45 : decode cX11_lose 45 = .ok (.getfield 7, 3) := by decide +kernel
theorem dX11_lose_48 : decode cX11_lose 48 = .ok (.sipush 382, 3) := by decide +kernel
theorem dX11_lose_51 : decode cX11_lose 51 = .ok (.iaload, 1) := by decide +kernel
theorem dX11_lose_52 : decode cX11_lose 52 = .ok (.if_icmp .ge 24, 3) := by decide +kernel
theorem dX11_lose_55 : decode cX11_lose 55 = .ok (.iload_n 2, 1) := by decide +kernel
theorem dX11_lose_56 : decode cX11_lose 56 = .ok (.aload_n 0, 1) := by decide +kernel
theorem dX11_lose_57 : decode cX11_lose 57 = .ok (.getfield 7, 3) := by decide +kernel
theorem dX11_lose_60 : decode cX11_lose 60 = .ok (.aload_n 0, 1) := by decide +kernel
theorem dX11_lose_61 : decode cX11_lose 61 = .ok (.iload_n 3, 1) := by decide +kernel
theorem dX11_lose_62 : decode cX11_lose 62 = .ok (.invokevirtual 100, 3) := by decide +kernel
theorem dX11_lose_65 : decode cX11_lose 65 = .ok (.iconst 1, 1) := by decide +kernel
theorem dX11_lose_66 : decode cX11_lose 66 = .ok (.iadd, 1) := by decide +kernel
theorem dX11_lose_67 : decode cX11_lose 67 = .ok (.iaload, 1) := by decide +kernel
theorem dX11_lose_68 : decode cX11_lose 68 = .ok (.iadd, 1) := by decide +kernel
theorem dX11_lose_69 : decode cX11_lose 69 = .ok (.istore_n 2, 1) := by decide +kernel
theorem dX11_lose_70 : decode cX11_lose 70 = .ok (.iinc 3 1, 3) := by decide +kernel
theorem dX11_lose_73 : decode cX11_lose 73 = .ok (.goto (-30), 3) := by decide +kernel
theorem dX11_lose_76 : decode cX11_lose 76 = .ok (.iload_n 2, 1) := by decide +kernel
theorem dX11_lose_77 : decode cX11_lose 77 = .ok (.ireturn, 1) := by decide +kernel
theorem dX11_counts_0 : decode cX11_counts 0 = .ok (.aload_n 0, 1) := by decide +kernel
theorem dX11_counts_1 : decode cX11_counts 1 = .ok (.getfield 7, 3) := by decide +kernel
theorem dX11_counts_4 : decode cX11_counts 4 = .ok (.sipush 3383, 3) := by decide +kernel
theorem dX11_counts_7 : decode cX11_counts 7 = .ok (.iload_n 1, 1) := by decide +kernel
theorem dX11_counts_8 : decode cX11_counts 8 = .ok (.iadd, 1) := by decide +kernel
theorem dX11_counts_9 : decode cX11_counts 9 = .ok (.dup2, 1) := by decide +kernel
theorem dX11_counts_10 : decode cX11_counts 10 = .ok (.iaload, 1) := by decide +kernel
theorem dX11_counts_11 : decode cX11_counts 11 = .ok (.iload_n 2, 1) := by decide +kernel
theorem dX11_counts_12 : decode cX11_counts 12 = .ok (.iadd, 1) := by decide +kernel
theorem dX11_counts_13 : decode cX11_counts 13 = .ok (.iastore, 1) := by decide +kernel
theorem dX11_counts_14 : decode cX11_counts 14 = .ok (.return_, 1) := by decide +kernel
theorem dX11_delivers_0 : decode cX11_delivers 0 = .ok (.sipush 3411, 3) := by decide +kernel
theorem dX11_delivers_3 : decode cX11_delivers 3 = .ok (.sipush 258, 3) := by decide +kernel
theorem dX11_delivers_6 : decode cX11_delivers 6 = .ok (.iload_n 1, 1) := by decide +kernel
theorem dX11_delivers_7 : decode cX11_delivers 7 = .ok (.imul, 1) := by decide +kernel
theorem dX11_delivers_8 : decode cX11_delivers 8 = .ok (.iadd, 1) := by decide +kernel
theorem dX11_delivers_9 : decode cX11_delivers 9 = .ok (.istore_n 2, 1) := by decide +kernel
theorem dX11_delivers_10 : decode cX11_delivers 10 = .ok (.aload_n 0, 1) := by decide +kernel
theorem dX11_delivers_11 : decode cX11_delivers 11 = .ok (.getfield 7, 3) := by decide +kernel
theorem dX11_delivers_14 : decode cX11_delivers 14 = .ok (.sipush 3407, 3) := by decide +kernel
theorem dX11_delivers_17 : decode cX11_delivers 17 = .ok (.iload_n 1, 1) := by decide +kernel
theorem dX11_delivers_18 : decode cX11_delivers 18 = .ok (.iadd, 1) := by decide +kernel
theorem dX11_delivers_19 : decode cX11_delivers 19 = .ok (.iconst 0, 1) := by decide +kernel
theorem dX11_delivers_20 : decode cX11_delivers 20 = .ok (.iastore, 1) := by decide +kernel
theorem dX11_delivers_21 : decode cX11_delivers 21 = .ok (.aload_n 0, 1) := by decide +kernel
theorem dX11_delivers_22 : decode cX11_delivers 22 = .ok (.getfield 7, 3) := by decide +kernel
theorem dX11_delivers_25 : decode cX11_delivers 25 = .ok (.iload_n 2, 1) := by decide +kernel
theorem dX11_delivers_26 : decode cX11_delivers 26 = .ok (.iaload, 1) := by decide +kernel
theorem dX11_delivers_27 : decode cX11_delivers 27 = .ok (.istore_n 3, 1) := by decide +kernel
theorem dX11_delivers_28 : decode cX11_delivers 28 = .ok (.iload_n 3, 1) := by decide +kernel
theorem dX11_delivers_29 : decode cX11_delivers 29 = .ok (.bipush 15, 2) := by decide +kernel
theorem dX11_delivers_31 : decode cX11_delivers 31 = .ok (.if_icmp .lt 21, 3) := by decide +kernel
theorem dX11_delivers_34 : decode cX11_delivers 34 = .ok (.aload_n 0, 1) := by decide +kernel
theorem dX11_delivers_35 : decode cX11_delivers 35 = .ok (.iload_n 3, 1) := by decide +kernel
theorem dX11_delivers_36 : decode cX11_delivers 36 = .ok (.bipush 15, 2) := by decide +kernel
theorem dX11_delivers_38 : decode cX11_delivers 38 = .ok (.if_icmp .ne 7, 3) := by decide +kernel
theorem dX11_delivers_41 : decode cX11_delivers 41 = .ok (.iconst 4, 1) := by decide +kernel
theorem dX11_delivers_42 : decode cX11_delivers 42 = .ok (.goto 4, 3) := by decide +kernel
theorem dX11_delivers_45 : decode cX11_delivers 45 = .ok (.iconst 3, 1) := by decide +kernel
theorem dX11_delivers_46 : decode cX11_delivers 46 = .ok (.iconst 1, 1) := by decide +kernel
theorem dX11_delivers_47 : decode cX11_delivers 47 = .ok (.invokevirtual 144, 3) := by decide +kernel
theorem dX11_delivers_50 : decode cX11_delivers 50 = .ok (.iconst 0, 1) := by decide +kernel
theorem dX11_delivers_51 : decode cX11_delivers 51 = .ok (.ireturn, 1) := by decide +kernel
theorem dX11_delivers_52 : decode cX11_delivers 52 = .ok (.sipush 4443, 3) := by decide +kernel
theorem dX11_delivers_55 : decode cX11_delivers 55 = .ok (.iconst 4, 1) := by decide +kernel
theorem dX11_delivers_56 : decode cX11_delivers 56 = .ok (.iload_n 3, 1) := by decide +kernel
theorem dX11_delivers_57 : decode cX11_delivers 57 = .ok (.imul, 1) := by decide +kernel
theorem dX11_delivers_58 : decode cX11_delivers 58 = .ok (.iadd, 1) := by decide +kernel
theorem dX11_delivers_59 : decode cX11_delivers 59 = .ok (.istore 4, 2) := by decide +kernel
theorem dX11_delivers_61 : decode cX11_delivers 61 = .ok (.aload_n 0, 1) := by decide +kernel
theorem dX11_delivers_62 : decode cX11_delivers 62 = .ok (.getfield 7, 3) := by decide +kernel
theorem dX11_delivers_65 : decode cX11_delivers 65 = .ok (.iload 4, 2) := by decide +kernel
theorem dX11_delivers_67 : decode cX11_delivers 67 = .ok (.dup2, 1) := by decide +kernel
theorem dX11_delivers_68 : decode cX11_delivers 68 = .ok (.iaload, 1) := by decide +kernel
theorem dX11_delivers_69 : decode cX11_delivers 69 = .ok (.iconst 1, 1) := by decide +kernel
theorem dX11_delivers_70 : decode cX11_delivers 70 = .ok (.iadd, 1) := by decide +kernel
theorem dX11_delivers_71 : decode cX11_delivers 71 = .ok (.iastore, 1) := by decide +kernel
theorem dX11_delivers_72 : decode cX11_delivers 72 = .ok (.aload_n 0, 1) := by decide +kernel
theorem dX11_delivers_73 : decode cX11_delivers 73 = .ok (.getfield 7, 3) := by decide +kernel
theorem dX11_delivers_76 : decode cX11_delivers 76 = .ok (.iload 4, 2) := by decide +kernel
theorem dX11_delivers_78 : decode cX11_delivers 78 = .ok (.iconst 1, 1) := by decide +kernel
theorem dX11_delivers_79 : decode cX11_delivers 79 = .ok (.iadd, 1) := by decide +kernel
theorem dX11_delivers_80 : decode cX11_delivers 80 = .ok (.dup2, 1) := by decide +kernel
theorem dX11_delivers_81 : decode cX11_delivers 81 = .ok (.iaload, 1) := by decide +kernel
theorem dX11_delivers_82 : decode cX11_delivers 82 = .ok (.aload_n 0, 1) := by decide +kernel
theorem dX11_delivers_83 : decode cX11_delivers 83 = .ok (.getfield 7, 3) := by decide +kernel
theorem dX11_delivers_86 : decode cX11_delivers 86 = .ok (.iload 4, 2) := by decide +kernel
theorem dX11_delivers_88 : decode cX11_delivers 88 = .ok (.iconst 3, 1) := by decide +kernel
theorem dX11_delivers_89 : decode cX11_delivers 89 = .ok (.iadd, 1) := by decide +kernel
theorem dX11_delivers_90 : decode cX11_delivers 90 = .ok (.iaload, 1) := by decide +kernel
theorem dX11_delivers_91 : decode cX11_delivers 91 = .ok (.iconst (-1), 1) := by decide +kernel
theorem dX11_delivers_92 : decode cX11_delivers 92 = .ok (.if_icmp .ne 7, 3) := by decide +kernel
theorem dX11_delivers_95 : decode cX11_delivers 95 = .ok (.iconst 0, 1) := by decide +kernel
theorem dX11_delivers_96 : decode cX11_delivers 96 = .ok (.goto 29, 3) := by decide +kernel
theorem dX11_delivers_99 : decode cX11_delivers 99 = .ok (.aload_n 0, 1) := by decide +kernel
theorem dX11_delivers_100 : decode cX11_delivers 100 = .ok (.getfield 7, 3) := by decide +kernel
theorem dX11_delivers_103 : decode cX11_delivers 103 = .ok (.iload_n 2, 1) := by decide +kernel
theorem dX11_delivers_104 : decode cX11_delivers 104 = .ok (.iconst 1, 1) := by decide +kernel
theorem dX11_delivers_105 : decode cX11_delivers 105 = .ok (.iadd, 1) := by decide +kernel
theorem dX11_delivers_106 : decode cX11_delivers 106 = .ok (.iaload, 1) := by decide +kernel
theorem dX11_delivers_107 : decode cX11_delivers 107 = .ok (.aload_n 0, 1) := by decide +kernel
theorem dX11_delivers_108 : decode cX11_delivers 108 = .ok (.getfield 7, 3) := by decide +kernel
theorem dX11_delivers_111 : decode cX11_delivers 111 = .ok (.iload 4, 2) := by decide +kernel
theorem dX11_delivers_113 : decode cX11_delivers 113 = .ok (.iconst 3, 1) := by decide +kernel
theorem dX11_delivers_114 : decode cX11_delivers 114 = .ok (.iadd, 1) := by decide +kernel
theorem dX11_delivers_115 : decode cX11_delivers 115 = .ok (.iaload, 1) := by decide +kernel
theorem dX11_delivers_116 : decode cX11_delivers 116 = .ok (.isub, 1) := by decide +kernel
theorem dX11_delivers_117 : decode cX11_delivers 117 = .ok (.sipush 255, 3) := by decide +kernel
theorem dX11_delivers_120 : decode cX11_delivers 120 = .ok (.iadd, 1) := by decide +kernel
theorem dX11_delivers_121 : decode cX11_delivers 121 = .ok (.sipush 256, 3) := by decide +kernel
theorem dX11_delivers_124 : decode cX11_delivers 124 = .ok (.irem, 1) := by decide +kernel
theorem dX11_delivers_125 : decode cX11_delivers 125 = .ok (.iadd, 1) := by decide +kernel
theorem dX11_delivers_126 : decode cX11_delivers 126 = .ok (.iastore, 1) := by decide +kernel
theorem dX11_delivers_127 : decode cX11_delivers 127 = .ok (.aload_n 0, 1) := by decide +kernel
theorem dX11_delivers_128 : decode cX11_delivers 128 = .ok (.getfield 7, 3) := by decide +kernel
theorem dX11_delivers_131 : decode cX11_delivers 131 = .ok (.iload 4, 2) := by decide +kernel
theorem dX11_delivers_133 : decode cX11_delivers 133 = .ok (.iconst 2, 1) := by decide +kernel
theorem dX11_delivers_134 : decode cX11_delivers 134 = .ok (.iadd, 1) := by decide +kernel
theorem dX11_delivers_135 : decode cX11_delivers 135 = .ok (.dup2, 1) := by decide +kernel
theorem dX11_delivers_136 : decode cX11_delivers 136 = .ok (.iaload, 1) := by decide +kernel
theorem dX11_delivers_137 : decode cX11_delivers 137 = .ok (.aload_n 0, 1) := by decide +kernel
theorem dX11_delivers_138 : decode cX11_delivers 138 = .ok (.getfield 7, 3) := by decide +kernel
theorem dX11_delivers_141 : decode cX11_delivers 141 = .ok (.iload_n 2, 1) := by decide +kernel
theorem dX11_delivers_142 : decode cX11_delivers 142 = .ok (.iconst 2, 1) := by decide +kernel
theorem dX11_delivers_143 : decode cX11_delivers 143 = .ok (.iadd, 1) := by decide +kernel
theorem dX11_delivers_144 : decode cX11_delivers 144 = .ok (.iaload, 1) := by decide +kernel
theorem dX11_delivers_145 : decode cX11_delivers 145 = .ok (.iadd, 1) := by decide +kernel
theorem dX11_delivers_146 : decode cX11_delivers 146 = .ok (.iastore, 1) := by decide +kernel
theorem dX11_delivers_147 : decode cX11_delivers 147 = .ok (.aload_n 0, 1) := by decide +kernel
theorem dX11_delivers_148 : decode cX11_delivers 148 = .ok (.getfield 7, 3) := by decide +kernel
theorem dX11_delivers_151 : decode cX11_delivers 151 = .ok (.iload 4, 2) := by decide +kernel
theorem dX11_delivers_153 : decode cX11_delivers 153 = .ok (.iconst 3, 1) := by decide +kernel
theorem dX11_delivers_154 : decode cX11_delivers 154 = .ok (.iadd, 1) := by decide +kernel
theorem dX11_delivers_155 : decode cX11_delivers 155 = .ok (.aload_n 0, 1) := by decide +kernel
theorem dX11_delivers_156 : decode cX11_delivers 156 = .ok (.getfield 7, 3) := by decide +kernel
theorem dX11_delivers_159 : decode cX11_delivers 159 = .ok (.iload_n 2, 1) := by decide +kernel
theorem dX11_delivers_160 : decode cX11_delivers 160 = .ok (.iconst 1, 1) := by decide +kernel
theorem dX11_delivers_161 : decode cX11_delivers 161 = .ok (.iadd, 1) := by decide +kernel
theorem dX11_delivers_162 : decode cX11_delivers 162 = .ok (.iaload, 1) := by decide +kernel
theorem dX11_delivers_163 : decode cX11_delivers 163 = .ok (.iastore, 1) := by decide +kernel
theorem dX11_delivers_164 : decode cX11_delivers 164 = .ok (.aload_n 0, 1) := by decide +kernel
theorem dX11_delivers_165 : decode cX11_delivers 165 = .ok (.getfield 7, 3) := by decide +kernel
theorem dX11_delivers_168 : decode cX11_delivers 168 = .ok (.sipush 4503, 3) := by decide +kernel
theorem dX11_delivers_171 : decode cX11_delivers 171 = .ok (.iaload, 1) := by decide +kernel
theorem dX11_delivers_172 : decode cX11_delivers 172 = .ok (.bipush 30, 2) := by decide +kernel
theorem dX11_delivers_174 : decode cX11_delivers 174 = .ok (.if_icmp .ne 52, 3) := by decide +kernel
theorem dX11_delivers_177 : decode cX11_delivers 177 = .ok (.sipush 4504, 3) := by decide +kernel
theorem dX11_delivers_180 : decode cX11_delivers 180 = .ok (.istore 5, 2) := by decide +kernel
theorem dX11_delivers_182 : decode cX11_delivers 182 = .ok (.iload 5, 2) := by decide +kernel
theorem dX11_delivers_184 : decode cX11_delivers 184 = .ok (.sipush 12044, 3) := by decide +kernel
theorem dX11_delivers_187 : decode cX11_delivers 187 = .ok (.if_icmp .ge 27, 3) := by decide +kernel
theorem dX11_delivers_190 : decode cX11_delivers 190 = .ok (.aload_n 0, 1) := by decide +kernel
theorem dX11_delivers_191 : decode cX11_delivers 191 = .ok (.getfield 7, 3) := by decide +kernel
theorem dX11_delivers_194 : decode cX11_delivers 194 = .ok (.iload 5, 2) := by decide +kernel
theorem dX11_delivers_196 : decode cX11_delivers 196 = .ok (.aload_n 0, 1) := by decide +kernel
theorem dX11_delivers_197 : decode cX11_delivers 197 = .ok (.getfield 7, 3) := by decide +kernel
theorem dX11_delivers_200 : decode cX11_delivers 200 = .ok (.iload 5, 2) := by decide +kernel
theorem dX11_delivers_202 : decode cX11_delivers 202 = .ok (.sipush 260, 3) := by decide +kernel
theorem dX11_delivers_205 : decode cX11_delivers 205 = .ok (.iadd, 1) := by decide +kernel
theorem dX11_delivers_206 : decode cX11_delivers 206 = .ok (.iaload, 1) := by decide +kernel
theorem dX11_delivers_207 : decode cX11_delivers 207 = .ok (.iastore, 1) := by decide +kernel
theorem dX11_delivers_208 : decode cX11_delivers 208 = .ok (.iinc 5 1, 3) := by decide +kernel
theorem dX11_delivers_211 : decode cX11_delivers 211 = .ok (.goto (-29), 3) := by decide +kernel
theorem dX11_delivers_214 : decode cX11_delivers 214 = .ok (.aload_n 0, 1) := by decide +kernel
theorem dX11_delivers_215 : decode cX11_delivers 215 = .ok (.getfield 7, 3) := by decide +kernel
theorem dX11_delivers_218 : decode cX11_delivers 218 = .ok (.sipush 4503, 3) := by decide +kernel
theorem dX11_delivers_221 : decode cX11_delivers 221 = .ok (.dup2, 1) := by decide +kernel
theorem dX11_delivers_222 : decode cX11_delivers 222 = .ok (.iaload, 1) := by decide +kernel
theorem dX11_delivers_223 : decode cX11_delivers 223 = .ok (.iconst 1, 1) := by decide +kernel
theorem dX11_delivers_224 : decode cX11_delivers 224 = .ok (.isub, 1) := by decide +kernel
theorem dX11_delivers_225 : decode cX11_delivers 225 = .ok (.iastore, 1) := by decide +kernel
theorem dX11_delivers_226 : decode cX11_delivers 226 = .ok (.sipush 4504, 3) := by decide +kernel
theorem dX11_delivers_229 : decode cX11_delivers 229 = .ok (.sipush 260, 3) := by decide +kernel
theorem dX11_delivers_232 : decode cX11_delivers 232 = .ok (.aload_n 0, 1) := by decide +kernel
theorem dX11_delivers_233 : decode cX11_delivers 233 = .ok (.getfield 7, 3) := by decide +kernel
theorem dX11_delivers_236 : decode cX11_delivers 236 = .ok (.sipush 4503, 3) := by decide +kernel
theorem dX11_delivers_239 : decode cX11_delivers 239 = .ok (.iaload, 1) := by decide +kernel
theorem dX11_delivers_240 : decode cX11_delivers 240 = .ok (.imul, 1) := by decide +kernel
theorem dX11_delivers_241 : decode cX11_delivers 241 = .ok (.iadd, 1) := by decide +kernel
theorem dX11_delivers_242 : decode cX11_delivers 242 = .ok (.istore 5, 2) := by decide +kernel
theorem dX11_delivers_244 : decode cX11_delivers 244 = .ok (.aload_n 0, 1) := by decide +kernel
theorem dX11_delivers_245 : decode cX11_delivers 245 = .ok (.getfield 7, 3) := by decide +kernel
theorem dX11_delivers_248 : decode cX11_delivers 248 = .ok (.iload 5, 2) := by decide +kernel
theorem dX11_delivers_250 : decode cX11_delivers 250 = .ok (.iload_n 1, 1) := by decide +kernel
theorem dX11_delivers_251 : decode cX11_delivers 251 = .ok (.iastore, 1) := by decide +kernel
theorem dX11_delivers_252 : decode cX11_delivers 252 = .ok (.aload_n 0, 1) := by decide +kernel
theorem dX11_delivers_253 : decode cX11_delivers 253 = .ok (.getfield 7, 3) := by decide +kernel
theorem dX11_delivers_256 : decode cX11_delivers 256 = .ok (.iload 5, 2) := by decide +kernel
theorem dX11_delivers_258 : decode cX11_delivers 258 = .ok (.iconst 1, 1) := by decide +kernel
theorem dX11_delivers_259 : decode cX11_delivers 259 = .ok (.iadd, 1) := by decide +kernel
theorem dX11_delivers_260 : decode cX11_delivers 260 = .ok (.iload_n 3, 1) := by decide +kernel
theorem dX11_delivers_261 : decode cX11_delivers 261 = .ok (.iastore, 1) := by decide +kernel
theorem dX11_delivers_262 : decode cX11_delivers 262 = .ok (.aload_n 0, 1) := by decide +kernel
theorem dX11_delivers_263 : decode cX11_delivers 263 = .ok (.getfield 7, 3) := by decide +kernel
theorem dX11_delivers_266 : decode cX11_delivers 266 = .ok (.iload 5, 2) := by decide +kernel
theorem dX11_delivers_268 : decode cX11_delivers 268 = .ok (.iconst 2, 1) := by decide +kernel
theorem dX11_delivers_269 : decode cX11_delivers 269 = .ok (.iadd, 1) := by decide +kernel
theorem dX11_delivers_270 : decode cX11_delivers 270 = .ok (.aload_n 0, 1) := by decide +kernel
theorem dX11_delivers_271 : decode cX11_delivers 271 = .ok (.getfield 7, 3) := by decide +kernel
theorem dX11_delivers_274 : decode cX11_delivers 274 = .ok (.iload_n 2, 1) := by decide +kernel
theorem dX11_delivers_275 : decode cX11_delivers 275 = .ok (.iconst 1, 1) := by decide +kernel
theorem dX11_delivers_276 : decode cX11_delivers 276 = .ok (.iadd, 1) := by decide +kernel
theorem dX11_delivers_277 : decode cX11_delivers 277 = .ok (.iaload, 1) := by decide +kernel
theorem dX11_delivers_278 : decode cX11_delivers 278 = .ok (.iastore, 1) := by decide +kernel
theorem dX11_delivers_279 : decode cX11_delivers 279 = .ok (.aload_n 0, 1) := by decide +kernel
theorem dX11_delivers_280 : decode cX11_delivers 280 = .ok (.getfield 7, 3) := by decide +kernel
theorem dX11_delivers_283 : decode cX11_delivers 283 = .ok (.iload 5, 2) := by decide +kernel
theorem dX11_delivers_285 : decode cX11_delivers 285 = .ok (.iconst 3, 1) := by decide +kernel
theorem dX11_delivers_286 : decode cX11_delivers 286 = .ok (.iadd, 1) := by decide +kernel
theorem dX11_delivers_287 : decode cX11_delivers 287 = .ok (.aload_n 0, 1) := by decide +kernel
theorem dX11_delivers_288 : decode cX11_delivers 288 = .ok (.getfield 7, 3) := by decide +kernel
theorem dX11_delivers_291 : decode cX11_delivers 291 = .ok (.iload_n 2, 1) := by decide +kernel
theorem dX11_delivers_292 : decode cX11_delivers 292 = .ok (.iconst 2, 1) := by decide +kernel
theorem dX11_delivers_293 : decode cX11_delivers 293 = .ok (.iadd, 1) := by decide +kernel
theorem dX11_delivers_294 : decode cX11_delivers 294 = .ok (.iaload, 1) := by decide +kernel
theorem dX11_delivers_295 : decode cX11_delivers 295 = .ok (.iastore, 1) := by decide +kernel
theorem dX11_delivers_296 : decode cX11_delivers 296 = .ok (.aload_n 0, 1) := by decide +kernel
theorem dX11_delivers_297 : decode cX11_delivers 297 = .ok (.getfield 7, 3) := by decide +kernel
theorem dX11_delivers_300 : decode cX11_delivers 300 = .ok (.iload 5, 2) := by decide +kernel
theorem dX11_delivers_302 : decode cX11_delivers 302 = .ok (.iconst 4, 1) := by decide +kernel
theorem dX11_delivers_303 : decode cX11_delivers 303 = .ok (.iadd, 1) := by decide +kernel
theorem dX11_delivers_304 : decode cX11_delivers 304 = .ok (.iconst 0, 1) := by decide +kernel
theorem dX11_delivers_305 : decode cX11_delivers 305 = .ok (.iastore, 1) := by decide +kernel
theorem dX11_delivers_306 : decode cX11_delivers 306 = .ok (.iconst 0, 1) := by decide +kernel
theorem dX11_delivers_307 : decode cX11_delivers 307 = .ok (.istore 6, 2) := by decide +kernel
theorem dX11_delivers_309 : decode cX11_delivers 309 = .ok (.iload 6, 2) := by decide +kernel
theorem dX11_delivers_311 : decode cX11_delivers 311 = .ok (.aload_n 0, 1) := by decide +kernel
theorem dX11_delivers_312 : decode cX11_delivers 312 = .ok (.getfield 7, 3) := by decide +kernel
theorem dX11_delivers_315 : decode cX11_delivers 315 = .ok (.iload 5, 2) := by decide +kernel
theorem dX11_delivers_317 : decode cX11_delivers 317 = .ok (.iconst 3, 1) := by decide +kernel
theorem dX11_delivers_318 : decode cX11_delivers 318 = .ok (.iadd, 1) := by decide +kernel
theorem dX11_delivers_319 : decode cX11_delivers 319 = .ok (.iaload, 1) := by decide +kernel
theorem dX11_delivers_320 : decode cX11_delivers 320 = .ok (.if_icmp .ge 55, 3) := by decide +kernel
theorem dX11_delivers_323 : decode cX11_delivers 323 = .ok (.aload_n 0, 1) := by decide +kernel
theorem dX11_delivers_324 : decode cX11_delivers 324 = .ok (.getfield 7, 3) := by decide +kernel
theorem dX11_delivers_327 : decode cX11_delivers 327 = .ok (.iload 5, 2) := by decide +kernel
theorem dX11_delivers_329 : decode cX11_delivers 329 = .ok (.iconst 5, 1) := by decide +kernel
theorem dX11_delivers_330 : decode cX11_delivers 330 = .ok (.iadd, 1) := by decide +kernel
theorem dX11_delivers_331 : decode cX11_delivers 331 = .ok (.iload 6, 2) := by decide +kernel
theorem dX11_delivers_333 : decode cX11_delivers 333 = .ok (.iadd, 1) := by decide +kernel
theorem dX11_delivers_334 : decode cX11_delivers 334 = .ok (.aload_n 0, 1) := by decide +kernel
theorem dX11_delivers_335 : decode cX11_delivers 335 = .ok (.getfield 7, 3) := by decide +kernel
theorem dX11_delivers_338 : decode cX11_delivers 338 = .ok (.iload_n 2, 1) := by decide +kernel
theorem dX11_delivers_339 : decode cX11_delivers 339 = .ok (.iconst 3, 1) := by decide +kernel
theorem dX11_delivers_340 : decode cX11_delivers 340 = .ok (.iadd, 1) := by decide +kernel
theorem dX11_delivers_341 : decode cX11_delivers 341 = .ok (.iload 6, 2) := by decide +kernel
theorem dX11_delivers_343 : decode cX11_delivers 343 = .ok (.iadd, 1) := by decide +kernel
theorem dX11_delivers_344 : decode cX11_delivers 344 = .ok (.iaload, 1) := by decide +kernel
theorem dX11_delivers_345 : decode cX11_delivers 345 = .ok (.iastore, 1) := by decide +kernel
theorem dX11_delivers_346 : decode cX11_delivers 346 = .ok (.aload_n 0, 1) := by decide +kernel
theorem dX11_delivers_347 : decode cX11_delivers 347 = .ok (.getfield 7, 3) := by decide +kernel
theorem dX11_delivers_350 : decode cX11_delivers 350 = .ok (.iload 5, 2) := by decide +kernel
theorem dX11_delivers_352 : decode cX11_delivers 352 = .ok (.iconst 4, 1) := by decide +kernel
theorem dX11_delivers_353 : decode cX11_delivers 353 = .ok (.iadd, 1) := by decide +kernel
theorem dX11_delivers_354 : decode cX11_delivers 354 = .ok (.dup2, 1) := by decide +kernel
theorem dX11_delivers_355 : decode cX11_delivers 355 = .ok (.iaload, 1) := by decide +kernel
theorem dX11_delivers_356 : decode cX11_delivers 356 = .ok (.aload_n 0, 1) := by decide +kernel
theorem dX11_delivers_357 : decode cX11_delivers 357 = .ok (.getfield 7, 3) := by decide +kernel
theorem dX11_delivers_360 : decode cX11_delivers 360 = .ok (.iload_n 2, 1) := by decide +kernel
theorem dX11_delivers_361 : decode cX11_delivers 361 = .ok (.iconst 3, 1) := by decide +kernel
theorem dX11_delivers_362 : decode cX11_delivers 362 = .ok (.iadd, 1) := by decide +kernel
theorem dX11_delivers_363 : decode cX11_delivers 363 = .ok (.iload 6, 2) := by decide +kernel
theorem dX11_delivers_365 : decode cX11_delivers 365 = .ok (.iadd, 1) := by decide +kernel
theorem dX11_delivers_366 : decode cX11_delivers 366 = .ok (.iaload, 1) := by decide +kernel
theorem dX11_delivers_367 : decode cX11_delivers 367 = .ok (.iadd, 1) := by decide +kernel
theorem dX11_delivers_368 : decode cX11_delivers 368 = .ok (.iastore, 1) := by decide +kernel
theorem dX11_delivers_369 : decode cX11_delivers 369 = .ok (.iinc 6 1, 3) := by decide +kernel
theorem dX11_delivers_372 : decode cX11_delivers 372 = .ok (.goto (-63), 3) := by decide +kernel
theorem dX11_delivers_375 : decode cX11_delivers 375 = .ok (.aload_n 0, 1) := by decide +kernel
theorem dX11_delivers_376 : decode cX11_delivers 376 = .ok (.getfield 7, 3) := by decide +kernel
theorem dX11_delivers_379 : decode cX11_delivers 379 = .ok (.sipush 4503, 3) := by decide +kernel
theorem dX11_delivers_382 : decode cX11_delivers 382 = .ok (.dup2, 1) := by decide +kernel
theorem dX11_delivers_383 : decode cX11_delivers 383 = .ok (.iaload, 1) := by decide +kernel
theorem dX11_delivers_384 : decode cX11_delivers 384 = .ok (.iconst 1, 1) := by decide +kernel
theorem dX11_delivers_385 : decode cX11_delivers 385 = .ok (.iadd, 1) := by decide +kernel
theorem dX11_delivers_386 : decode cX11_delivers 386 = .ok (.iastore, 1) := by decide +kernel
theorem dX11_delivers_387 : decode cX11_delivers 387 = .ok (.iconst 1, 1) := by decide +kernel
theorem dX11_delivers_388 : decode cX11_delivers 388 = .ok (.ireturn, 1) := by decide +kernel
theorem dX11_appends_0 : decode cX11_appends 0 = .ok (.sipush 3411, 3) := by decide +kernel
theorem dX11_appends_3 : decode cX11_appends 3 = .ok (.sipush 258, 3) := by decide +kernel
theorem dX11_appends_6 : decode cX11_appends 6 = .ok (.iload_n 1, 1) := by decide +kernel
theorem dX11_appends_7 : decode cX11_appends 7 = .ok (.imul, 1) := by decide +kernel
theorem dX11_appends_8 : decode cX11_appends 8 = .ok (.iadd, 1) := by decide +kernel
theorem dX11_appends_9 : decode cX11_appends 9 = .ok (.istore_n 3, 1) := by decide +kernel
theorem dX11_appends_10 : decode cX11_appends 10 = .ok (.aload_n 0, 1) := by decide +kernel
theorem dX11_appends_11 : decode cX11_appends 11 = .ok (.getfield 7, 3) := by decide +kernel
theorem dX11_appends_14 : decode cX11_appends 14 = .ok (.iload_n 3, 1) := by decide +kernel
theorem dX11_appends_15 : decode cX11_appends 15 = .ok (.aload_n 0, 1) := by decide +kernel
theorem dX11_appends_16 : decode cX11_appends 16 = .ok (.getfield 7, 3) := by decide +kernel
theorem dX11_appends_19 : decode cX11_appends 19 = .ok (.sipush 3407, 3) := by decide +kernel
theorem dX11_appends_22 : decode cX11_appends 22 = .ok (.iload_n 1, 1) := by decide +kernel
theorem dX11_appends_23 : decode cX11_appends 23 = .ok (.iadd, 1) := by decide +kernel
theorem dX11_appends_24 : decode cX11_appends 24 = .ok (.iaload, 1) := by decide +kernel
theorem dX11_appends_25 : decode cX11_appends 25 = .ok (.iadd, 1) := by decide +kernel
theorem dX11_appends_26 : decode cX11_appends 26 = .ok (.iload_n 2, 1) := by decide +kernel
theorem dX11_appends_27 : decode cX11_appends 27 = .ok (.iastore, 1) := by decide +kernel
theorem dX11_appends_28 : decode cX11_appends 28 = .ok (.aload_n 0, 1) := by decide +kernel
theorem dX11_appends_29 : decode cX11_appends 29 = .ok (.getfield 7, 3) := by decide +kernel
theorem dX11_appends_32 : decode cX11_appends 32 = .ok (.sipush 3407, 3) := by decide +kernel
theorem dX11_appends_35 : decode cX11_appends 35 = .ok (.iload_n 1, 1) := by decide +kernel
theorem dX11_appends_36 : decode cX11_appends 36 = .ok (.iadd, 1) := by decide +kernel
theorem dX11_appends_37 : decode cX11_appends 37 = .ok (.dup2, 1) := by decide +kernel
theorem dX11_appends_38 : decode cX11_appends 38 = .ok (.iaload, 1) := by decide +kernel
theorem dX11_appends_39 : decode cX11_appends 39 = .ok (.iconst 1, 1) := by decide +kernel
theorem dX11_appends_40 : decode cX11_appends 40 = .ok (.iadd, 1) := by decide +kernel
theorem dX11_appends_41 : decode cX11_appends 41 = .ok (.iastore, 1) := by decide +kernel
theorem dX11_appends_42 : decode cX11_appends 42 = .ok (.aload_n 0, 1) := by decide +kernel
theorem dX11_appends_43 : decode cX11_appends 43 = .ok (.getfield 7, 3) := by decide +kernel
theorem dX11_appends_46 : decode cX11_appends 46 = .ok (.sipush 3407, 3) := by decide +kernel
theorem dX11_appends_49 : decode cX11_appends 49 = .ok (.iload_n 1, 1) := by decide +kernel
theorem dX11_appends_50 : decode cX11_appends 50 = .ok (.iadd, 1) := by decide +kernel
theorem dX11_appends_51 : decode cX11_appends 51 = .ok (.iaload, 1) := by decide +kernel
theorem dX11_appends_52 : decode cX11_appends 52 = .ok (.istore 4, 2) := by decide +kernel
theorem dX11_appends_54 : decode cX11_appends 54 = .ok (.iload 4, 2) := by decide +kernel
theorem dX11_appends_56 : decode cX11_appends 56 = .ok (.iconst 3, 1) := by decide +kernel
theorem dX11_appends_57 : decode cX11_appends 57 = .ok (.if_icmp .lt 30, 3) := by decide +kernel
theorem dX11_appends_60 : decode cX11_appends 60 = .ok (.iload 4, 2) := by decide +kernel
theorem dX11_appends_62 : decode cX11_appends 62 = .ok (.iconst 3, 1) := by decide +kernel
theorem dX11_appends_63 : decode cX11_appends 63 = .ok (.aload_n 0, 1) := by decide +kernel
theorem dX11_appends_64 : decode cX11_appends 64 = .ok (.getfield 7, 3) := by decide +kernel
theorem dX11_appends_67 : decode cX11_appends 67 = .ok (.iload_n 3, 1) := by decide +kernel
theorem dX11_appends_68 : decode cX11_appends 68 = .ok (.iconst 2, 1) := by decide +kernel
theorem dX11_appends_69 : decode cX11_appends 69 = .ok (.iadd, 1) := by decide +kernel
theorem dX11_appends_70 : decode cX11_appends 70 = .ok (.iaload, 1) := by decide +kernel
theorem dX11_appends_71 : decode cX11_appends 71 = .ok (.iadd, 1) := by decide +kernel
theorem dX11_appends_72 : decode cX11_appends 72 = .ok (.if_icmp .ne 15, 3) := by decide +kernel
theorem dX11_appends_75 : decode cX11_appends 75 = .ok (.aload_n 0, 1) := by decide +kernel
theorem dX11_appends_76 : decode cX11_appends 76 = .ok (.iload_n 1, 1) := by decide +kernel
theorem dX11_appends_77 : decode cX11_appends 77 = .ok (.invokevirtual 148, 3) := by decide +kernel
theorem dX11_appends_80 : decode cX11_appends 80 = .ok (.ifCond .eq 7, 3) := by decide +kernel
theorem dX11_appends_83 : decode cX11_appends 83 = .ok (.iconst 1, 1) := by decide +kernel
theorem dX11_appends_84 : decode cX11_appends 84 = .ok (.goto 4, 3) := by decide +kernel
theorem dX11_appends_87 : decode cX11_appends 87 = .ok (.iconst 0, 1) := by decide +kernel
theorem dX11_appends_88 : decode cX11_appends 88 = .ok (.ireturn, 1) := by decide +kernel
theorem dX11_notes_0 : decode cX11_notes 0 = .ok (.aload_n 0, 1) := by decide +kernel
theorem dX11_notes_1 : decode cX11_notes 1 = .ok (.getfield 7, 3) := by decide +kernel
theorem dX11_notes_4 : decode cX11_notes 4 = .ok (.sipush 12304, 3) := by decide +kernel
theorem dX11_notes_7 : decode cX11_notes 7 = .ok (.iaload, 1) := by decide +kernel
theorem dX11_notes_8 : decode cX11_notes 8 = .ok (.iconst 2, 1) := by decide +kernel
theorem dX11_notes_9 : decode cX11_notes 9 = .ok (.if_icmp .ne 47, 3) := by decide +kernel
theorem dX11_notes_12 : decode cX11_notes 12 = .ok (.aload_n 0, 1) := by decide +kernel
theorem dX11_notes_13 : decode cX11_notes 13 = .ok (.getfield 7, 3) := by decide +kernel
theorem dX11_notes_16 : decode cX11_notes 16 = .ok (.sipush 12305, 3) := by decide +kernel
theorem dX11_notes_19 : decode cX11_notes 19 = .ok (.aload_n 0, 1) := by decide +kernel
theorem dX11_notes_20 : decode cX11_notes 20 = .ok (.getfield 7, 3) := by decide +kernel
theorem dX11_notes_23 : decode cX11_notes 23 = .ok (.sipush 12307, 3) := by decide +kernel
theorem dX11_notes_26 : decode cX11_notes 26 = .ok (.iaload, 1) := by decide +kernel
theorem dX11_notes_27 : decode cX11_notes 27 = .ok (.iastore, 1) := by decide +kernel
theorem dX11_notes_28 : decode cX11_notes 28 = .ok (.aload_n 0, 1) := by decide +kernel
theorem dX11_notes_29 : decode cX11_notes 29 = .ok (.getfield 7, 3) := by decide +kernel
theorem dX11_notes_32 : decode cX11_notes 32 = .ok (.sipush 12306, 3) := by decide +kernel
theorem dX11_notes_35 : decode cX11_notes 35 = .ok (.aload_n 0, 1) := by decide +kernel
theorem dX11_notes_36 : decode cX11_notes 36 = .ok (.getfield 7, 3) := by decide +kernel
theorem dX11_notes_39 : decode cX11_notes 39 = .ok (.sipush 12308, 3) := by decide +kernel
theorem dX11_notes_42 : decode cX11_notes 42 = .ok (.iaload, 1) := by decide +kernel
theorem dX11_notes_43 : decode cX11_notes 43 = .ok (.iastore, 1) := by decide +kernel
theorem dX11_notes_44 : decode cX11_notes 44 = .ok (.aload_n 0, 1) := by decide +kernel
theorem dX11_notes_45 : decode cX11_notes 45 = .ok (.getfield 7, 3) := by decide +kernel
theorem dX11_notes_48 : decode cX11_notes 48 = .ok (.sipush 12304, 3) := by decide +kernel
theorem dX11_notes_51 : decode cX11_notes 51 = .ok (.dup2, 1) := by decide +kernel
theorem dX11_notes_52 : decode cX11_notes 52 = .ok (.iaload, 1) := by decide +kernel
theorem dX11_notes_53 : decode cX11_notes 53 = .ok (.iconst 1, 1) := by decide +kernel
theorem dX11_notes_54 : decode cX11_notes 54 = .ok (.isub, 1) := by decide +kernel
theorem dX11_notes_55 : decode cX11_notes 55 = .ok (.iastore, 1) := by decide +kernel
theorem dX11_notes_56 : decode cX11_notes 56 = .ok (.aload_n 0, 1) := by decide +kernel
theorem dX11_notes_57 : decode cX11_notes 57 = .ok (.getfield 7, 3) := by decide +kernel
theorem dX11_notes_60 : decode cX11_notes 60 = .ok (.sipush 12305, 3) := by decide +kernel
theorem dX11_notes_63 : decode cX11_notes 63 = .ok (.iconst 2, 1) := by decide +kernel
theorem dX11_notes_64 : decode cX11_notes 64 = .ok (.aload_n 0, 1) := by decide +kernel
theorem dX11_notes_65 : decode cX11_notes 65 = .ok (.getfield 7, 3) := by decide +kernel
theorem dX11_notes_68 : decode cX11_notes 68 = .ok (.sipush 12304, 3) := by decide +kernel
theorem dX11_notes_71 : decode cX11_notes 71 = .ok (.iaload, 1) := by decide +kernel
theorem dX11_notes_72 : decode cX11_notes 72 = .ok (.imul, 1) := by decide +kernel
theorem dX11_notes_73 : decode cX11_notes 73 = .ok (.iadd, 1) := by decide +kernel
theorem dX11_notes_74 : decode cX11_notes 74 = .ok (.iload_n 1, 1) := by decide +kernel
theorem dX11_notes_75 : decode cX11_notes 75 = .ok (.iastore, 1) := by decide +kernel
theorem dX11_notes_76 : decode cX11_notes 76 = .ok (.aload_n 0, 1) := by decide +kernel
theorem dX11_notes_77 : decode cX11_notes 77 = .ok (.getfield 7, 3) := by decide +kernel
theorem dX11_notes_80 : decode cX11_notes 80 = .ok (.sipush 12305, 3) := by decide +kernel
theorem dX11_notes_83 : decode cX11_notes 83 = .ok (.iconst 2, 1) := by decide +kernel
theorem dX11_notes_84 : decode cX11_notes 84 = .ok (.aload_n 0, 1) := by decide +kernel
theorem dX11_notes_85 : decode cX11_notes 85 = .ok (.getfield 7, 3) := by decide +kernel
theorem dX11_notes_88 : decode cX11_notes 88 = .ok (.sipush 12304, 3) := by decide +kernel
theorem dX11_notes_91 : decode cX11_notes 91 = .ok (.iaload, 1) := by decide +kernel
theorem dX11_notes_92 : decode cX11_notes 92 = .ok (.imul, 1) := by decide +kernel
theorem dX11_notes_93 : decode cX11_notes 93 = .ok (.iadd, 1) := by decide +kernel
theorem dX11_notes_94 : decode cX11_notes 94 = .ok (.iconst 1, 1) := by decide +kernel
theorem dX11_notes_95 : decode cX11_notes 95 = .ok (.iadd, 1) := by decide +kernel
theorem dX11_notes_96 : decode cX11_notes 96 = .ok (.iload_n 2, 1) := by decide +kernel
theorem dX11_notes_97 : decode cX11_notes 97 = .ok (.iastore, 1) := by decide +kernel
theorem dX11_notes_98 : decode cX11_notes 98 = .ok (.aload_n 0, 1) := by decide +kernel
theorem dX11_notes_99 : decode cX11_notes 99 = .ok (.getfield 7, 3) := by decide +kernel
theorem dX11_notes_102 : decode cX11_notes 102 = .ok (.sipush 12304, 3) := by decide +kernel
theorem dX11_notes_105 : decode cX11_notes 105 = .ok (.dup2, 1) := by decide +kernel
theorem dX11_notes_106 : decode cX11_notes 106 = .ok (.iaload, 1) := by decide +kernel
theorem dX11_notes_107 : decode cX11_notes 107 = .ok (.iconst 1, 1) := by decide +kernel
theorem dX11_notes_108 : decode cX11_notes 108 = .ok (.iadd, 1) := by decide +kernel
theorem dX11_notes_109 : decode cX11_notes 109 = .ok (.iastore, 1) := by decide +kernel
theorem dX11_notes_110 : decode cX11_notes 110 = .ok (.return_, 1) := by decide +kernel
theorem dX11_gapOf_0 : decode cX11_gapOf 0 = .ok (.aload_n 0, 1) := by decide +kernel
theorem dX11_gapOf_1 : decode cX11_gapOf 1 = .ok (.getfield 7, 3) := by decide +kernel
theorem dX11_gapOf_4 : decode cX11_gapOf 4 = .ok (.iload_n 1, 1) := by decide +kernel
theorem dX11_gapOf_5 : decode cX11_gapOf 5 = .ok (.iconst 4, 1) := by decide +kernel
theorem dX11_gapOf_6 : decode cX11_gapOf 6 = .ok (.iadd, 1) := by decide +kernel
theorem dX11_gapOf_7 : decode cX11_gapOf 7 = .ok (.iaload, 1) := by decide +kernel
theorem dX11_gapOf_8 : decode cX11_gapOf 8 = .ok (.istore_n 3, 1) := by decide +kernel
theorem dX11_gapOf_9 : decode cX11_gapOf 9 = .ok (.aload_n 0, 1) := by decide +kernel
theorem dX11_gapOf_10 : decode cX11_gapOf 10 = .ok (.getfield 7, 3) := by decide +kernel
theorem dX11_gapOf_13 : decode cX11_gapOf 13 = .ok (.iload_n 1, 1) := by decide +kernel
theorem dX11_gapOf_14 : decode cX11_gapOf 14 = .ok (.iconst 4, 1) := by decide +kernel
theorem dX11_gapOf_15 : decode cX11_gapOf 15 = .ok (.iadd, 1) := by decide +kernel
theorem dX11_gapOf_16 : decode cX11_gapOf 16 = .ok (.iconst 2, 1) := by decide +kernel
theorem dX11_gapOf_17 : decode cX11_gapOf 17 = .ok (.iadd, 1) := by decide +kernel
theorem dX11_gapOf_18 : decode cX11_gapOf 18 = .ok (.iaload, 1) := by decide +kernel
theorem dX11_gapOf_19 : decode cX11_gapOf 19 = .ok (.istore 4, 2) := by decide +kernel
theorem dX11_gapOf_21 : decode cX11_gapOf 21 = .ok (.aload_n 0, 1) := by decide +kernel
theorem dX11_gapOf_22 : decode cX11_gapOf 22 = .ok (.iconst 0, 1) := by decide +kernel
theorem dX11_gapOf_23 : decode cX11_gapOf 23 = .ok (.iconst 1, 1) := by decide +kernel
theorem dX11_gapOf_24 : decode cX11_gapOf 24 = .ok (.invokevirtual 144, 3) := by decide +kernel
theorem dX11_gapOf_27 : decode cX11_gapOf 27 = .ok (.aload_n 0, 1) := by decide +kernel
theorem dX11_gapOf_28 : decode cX11_gapOf 28 = .ok (.iconst 2, 1) := by decide +kernel
theorem dX11_gapOf_29 : decode cX11_gapOf 29 = .ok (.aload_n 0, 1) := by decide +kernel
theorem dX11_gapOf_30 : decode cX11_gapOf 30 = .ok (.getfield 7, 3) := by decide +kernel
theorem dX11_gapOf_33 : decode cX11_gapOf 33 = .ok (.sipush 3389, 3) := by decide +kernel
theorem dX11_gapOf_36 : decode cX11_gapOf 36 = .ok (.iaload, 1) := by decide +kernel
theorem dX11_gapOf_37 : decode cX11_gapOf 37 = .ok (.iconst (-1), 1) := by decide +kernel
theorem dX11_gapOf_38 : decode cX11_gapOf 38 = .ok (.if_icmp .ne 7, 3) := by decide +kernel
theorem dX11_gapOf_41 : decode cX11_gapOf 41 = .ok (.iconst 0, 1) := by decide +kernel
theorem dX11_gapOf_42 : decode cX11_gapOf 42 = .ok (.goto 21, 3) := by decide +kernel
theorem dX11_gapOf_45 : decode cX11_gapOf 45 = .ok (.iload_n 3, 1) := by decide +kernel
theorem dX11_gapOf_46 : decode cX11_gapOf 46 = .ok (.aload_n 0, 1) := by decide +kernel
theorem dX11_gapOf_47 : decode cX11_gapOf 47 = .ok (.getfield 7, 3) := by decide +kernel
theorem dX11_gapOf_50 : decode cX11_gapOf 50 = .ok (.sipush 3389, 3) := by decide +kernel
theorem dX11_gapOf_53 : decode cX11_gapOf 53 = .ok (.iaload, 1) := by decide +kernel
theorem dX11_gapOf_54 : decode cX11_gapOf 54 = .ok (.isub, 1) := by decide +kernel
theorem dX11_gapOf_55 : decode cX11_gapOf 55 = .ok (.sipush 255, 3) := by decide +kernel
theorem dX11_gapOf_58 : decode cX11_gapOf 58 = .ok (.iadd, 1) := by decide +kernel
theorem dX11_gapOf_59 : decode cX11_gapOf 59 = .ok (.sipush 256, 3) := by decide +kernel
theorem dX11_gapOf_62 : decode cX11_gapOf 62 = .ok (.irem, 1) := by decide +kernel
theorem dX11_gapOf_63 : decode cX11_gapOf 63 = .ok (.invokevirtual 144, 3) := by decide +kernel
theorem dX11_gapOf_66 : decode cX11_gapOf 66 = .ok (.aload_n 0, 1) := by decide +kernel
theorem dX11_gapOf_67 : decode cX11_gapOf 67 = .ok (.getfield 7, 3) := by decide +kernel
theorem dX11_gapOf_70 : decode cX11_gapOf 70 = .ok (.sipush 3389, 3) := by decide +kernel
theorem dX11_gapOf_73 : decode cX11_gapOf 73 = .ok (.iload_n 3, 1) := by decide +kernel
theorem dX11_gapOf_74 : decode cX11_gapOf 74 = .ok (.iastore, 1) := by decide +kernel
theorem dX11_gapOf_75 : decode cX11_gapOf 75 = .ok (.aload_n 0, 1) := by decide +kernel
theorem dX11_gapOf_76 : decode cX11_gapOf 76 = .ok (.getfield 7, 3) := by decide +kernel
theorem dX11_gapOf_79 : decode cX11_gapOf 79 = .ok (.sipush 3390, 3) := by decide +kernel
theorem dX11_gapOf_82 : decode cX11_gapOf 82 = .ok (.iload_n 2, 1) := by decide +kernel
theorem dX11_gapOf_83 : decode cX11_gapOf 83 = .ok (.iadd, 1) := by decide +kernel
theorem dX11_gapOf_84 : decode cX11_gapOf 84 = .ok (.iaload, 1) := by decide +kernel
theorem dX11_gapOf_85 : decode cX11_gapOf 85 = .ok (.iconst (-1), 1) := by decide +kernel
theorem dX11_gapOf_86 : decode cX11_gapOf 86 = .ok (.if_icmp .ne 7, 3) := by decide +kernel
theorem dX11_gapOf_89 : decode cX11_gapOf 89 = .ok (.iconst 1, 1) := by decide +kernel
theorem dX11_gapOf_90 : decode cX11_gapOf 90 = .ok (.goto 4, 3) := by decide +kernel
theorem dX11_gapOf_93 : decode cX11_gapOf 93 = .ok (.iconst 0, 1) := by decide +kernel
theorem dX11_gapOf_94 : decode cX11_gapOf 94 = .ok (.istore 5, 2) := by decide +kernel
theorem dX11_gapOf_96 : decode cX11_gapOf 96 = .ok (.iload 5, 2) := by decide +kernel
theorem dX11_gapOf_98 : decode cX11_gapOf 98 = .ok (.ifCond .eq 7, 3) := by decide +kernel
theorem dX11_gapOf_101 : decode cX11_gapOf 101 = .ok (.iconst 1, 1) := by decide +kernel
theorem dX11_gapOf_102 : decode cX11_gapOf 102 = .ok (.goto 24, 3) := by decide +kernel
theorem dX11_gapOf_105 : decode cX11_gapOf 105 = .ok (.iload 4, 2) := by decide +kernel
theorem dX11_gapOf_107 : decode cX11_gapOf 107 = .ok (.aload_n 0, 1) := by decide +kernel
theorem dX11_gapOf_108 : decode cX11_gapOf 108 = .ok (.getfield 7, 3) := by decide +kernel
theorem dX11_gapOf_111 : decode cX11_gapOf 111 = .ok (.sipush 3390, 3) := by decide +kernel
theorem dX11_gapOf_114 : decode cX11_gapOf 114 = .ok (.iload_n 2, 1) := by decide +kernel
theorem dX11_gapOf_115 : decode cX11_gapOf 115 = .ok (.iadd, 1) := by decide +kernel
theorem dX11_gapOf_116 : decode cX11_gapOf 116 = .ok (.iaload, 1) := by decide +kernel
theorem dX11_gapOf_117 : decode cX11_gapOf 117 = .ok (.isub, 1) := by decide +kernel
theorem dX11_gapOf_118 : decode cX11_gapOf 118 = .ok (.sipush 255, 3) := by decide +kernel
theorem dX11_gapOf_121 : decode cX11_gapOf 121 = .ok (.iadd, 1) := by decide +kernel
theorem dX11_gapOf_122 : decode cX11_gapOf 122 = .ok (.sipush 256, 3) := by decide +kernel
theorem dX11_gapOf_125 : decode cX11_gapOf 125 = .ok (.irem, 1) := by decide +kernel
theorem dX11_gapOf_126 : decode cX11_gapOf 126 = .ok (.istore 6, 2) := by decide +kernel
theorem dX11_gapOf_128 : decode cX11_gapOf 128 = .ok (.aload_n 0, 1) := by decide +kernel
theorem dX11_gapOf_129 : decode cX11_gapOf 129 = .ok (.getfield 7, 3) := by decide +kernel
theorem dX11_gapOf_132 : decode cX11_gapOf 132 = .ok (.sipush 3390, 3) := by decide +kernel
theorem dX11_gapOf_135 : decode cX11_gapOf 135 = .ok (.iload_n 2, 1) := by decide +kernel
theorem dX11_gapOf_136 : decode cX11_gapOf 136 = .ok (.iadd, 1) := by decide +kernel
theorem dX11_gapOf_137 : decode cX11_gapOf 137 = .ok (.iload 4, 2) := by decide +kernel
theorem dX11_gapOf_139 : decode cX11_gapOf 139 = .ok (.iastore, 1) := by decide +kernel
theorem dX11_gapOf_140 : decode cX11_gapOf 140 = .ok (.iload_n 2, 1) := by decide +kernel
theorem dX11_gapOf_141 : decode cX11_gapOf 141 = .ok (.iconst 4, 1) := by decide +kernel
theorem dX11_gapOf_142 : decode cX11_gapOf 142 = .ok (.if_icmp .ge 41, 3) := by decide +kernel
theorem dX11_gapOf_145 : decode cX11_gapOf 145 = .ok (.aload_n 0, 1) := by decide +kernel
theorem dX11_gapOf_146 : decode cX11_gapOf 146 = .ok (.getfield 7, 3) := by decide +kernel
theorem dX11_gapOf_149 : decode cX11_gapOf 149 = .ok (.sipush 3395, 3) := by decide +kernel
theorem dX11_gapOf_152 : decode cX11_gapOf 152 = .ok (.iload_n 2, 1) := by decide +kernel
theorem dX11_gapOf_153 : decode cX11_gapOf 153 = .ok (.iadd, 1) := by decide +kernel
theorem dX11_gapOf_154 : decode cX11_gapOf 154 = .ok (.dup2, 1) := by decide +kernel
theorem dX11_gapOf_155 : decode cX11_gapOf 155 = .ok (.iaload, 1) := by decide +kernel
theorem dX11_gapOf_156 : decode cX11_gapOf 156 = .ok (.iconst 1, 1) := by decide +kernel
theorem dX11_gapOf_157 : decode cX11_gapOf 157 = .ok (.iadd, 1) := by decide +kernel
theorem dX11_gapOf_158 : decode cX11_gapOf 158 = .ok (.iastore, 1) := by decide +kernel
theorem dX11_gapOf_159 : decode cX11_gapOf 159 = .ok (.aload_n 0, 1) := by decide +kernel
theorem dX11_gapOf_160 : decode cX11_gapOf 160 = .ok (.getfield 7, 3) := by decide +kernel
theorem dX11_gapOf_163 : decode cX11_gapOf 163 = .ok (.sipush 3399, 3) := by decide +kernel
theorem dX11_gapOf_166 : decode cX11_gapOf 166 = .ok (.iload_n 2, 1) := by decide +kernel
theorem dX11_gapOf_167 : decode cX11_gapOf 167 = .ok (.iadd, 1) := by decide +kernel
theorem dX11_gapOf_168 : decode cX11_gapOf 168 = .ok (.dup2, 1) := by decide +kernel
theorem dX11_gapOf_169 : decode cX11_gapOf 169 = .ok (.iaload, 1) := by decide +kernel
theorem dX11_gapOf_170 : decode cX11_gapOf 170 = .ok (.iload 5, 2) := by decide +kernel
theorem dX11_gapOf_172 : decode cX11_gapOf 172 = .ok (.ifCond .eq 7, 3) := by decide +kernel
theorem dX11_gapOf_175 : decode cX11_gapOf 175 = .ok (.iconst 0, 1) := by decide +kernel
theorem dX11_gapOf_176 : decode cX11_gapOf 176 = .ok (.goto 5, 3) := by decide +kernel
theorem dX11_gapOf_179 : decode cX11_gapOf 179 = .ok (.iload 6, 2) := by decide +kernel
theorem dX11_gapOf_181 : decode cX11_gapOf 181 = .ok (.iadd, 1) := by decide +kernel
theorem dX11_gapOf_182 : decode cX11_gapOf 182 = .ok (.iastore, 1) := by decide +kernel
theorem dX11_gapOf_183 : decode cX11_gapOf 183 = .ok (.iload 6, 2) := by decide +kernel
theorem dX11_gapOf_185 : decode cX11_gapOf 185 = .ok (.ireturn, 1) := by decide +kernel
theorem dX11_takesData_0 : decode cX11_takesData 0 = .ok (.aload_n 0, 1) := by decide +kernel
theorem dX11_takesData_1 : decode cX11_takesData 1 = .ok (.getfield 7, 3) := by decide +kernel
theorem dX11_takesData_4 : decode cX11_takesData 4 = .ok (.iload_n 1, 1) := by decide +kernel
theorem dX11_takesData_5 : decode cX11_takesData 5 = .ok (.iaload, 1) := by decide +kernel
theorem dX11_takesData_6 : decode cX11_takesData 6 = .ok (.istore_n 3, 1) := by decide +kernel
theorem dX11_takesData_7 : decode cX11_takesData 7 = .ok (.iconst 0, 1) := by decide +kernel
theorem dX11_takesData_8 : decode cX11_takesData 8 = .ok (.istore 4, 2) := by decide +kernel
theorem dX11_takesData_10 : decode cX11_takesData 10 = .ok (.aload_n 0, 1) := by decide +kernel
theorem dX11_takesData_11 : decode cX11_takesData 11 = .ok (.getfield 7, 3) := by decide +kernel
theorem dX11_takesData_14 : decode cX11_takesData 14 = .ok (.sipush 3403, 3) := by decide +kernel
theorem dX11_takesData_17 : decode cX11_takesData 17 = .ok (.iload_n 2, 1) := by decide +kernel
theorem dX11_takesData_18 : decode cX11_takesData 18 = .ok (.iadd, 1) := by decide +kernel
theorem dX11_takesData_19 : decode cX11_takesData 19 = .ok (.iaload, 1) := by decide +kernel
theorem dX11_takesData_20 : decode cX11_takesData 20 = .ok (.ifCond .ne 52, 3) := by decide +kernel
theorem dX11_takesData_23 : decode cX11_takesData 23 = .ok (.aload_n 0, 1) := by decide +kernel
theorem dX11_takesData_24 : decode cX11_takesData 24 = .ok (.getfield 7, 3) := by decide +kernel
theorem dX11_takesData_27 : decode cX11_takesData 27 = .ok (.iload_n 1, 1) := by decide +kernel
theorem dX11_takesData_28 : decode cX11_takesData 28 = .ok (.iconst 4, 1) := by decide +kernel
theorem dX11_takesData_29 : decode cX11_takesData 29 = .ok (.iadd, 1) := by decide +kernel
theorem dX11_takesData_30 : decode cX11_takesData 30 = .ok (.iconst 3, 1) := by decide +kernel
theorem dX11_takesData_31 : decode cX11_takesData 31 = .ok (.iadd, 1) := by decide +kernel
theorem dX11_takesData_32 : decode cX11_takesData 32 = .ok (.iaload, 1) := by decide +kernel
theorem dX11_takesData_33 : decode cX11_takesData 33 = .ok (.istore 5, 2) := by decide +kernel
theorem dX11_takesData_35 : decode cX11_takesData 35 = .ok (.iload 5, 2) := by decide +kernel
theorem dX11_takesData_37 : decode cX11_takesData 37 = .ok (.iload_n 3, 1) := by decide +kernel
theorem dX11_takesData_38 : decode cX11_takesData 38 = .ok (.if_icmp .ge 8, 3) := by decide +kernel
theorem dX11_takesData_41 : decode cX11_takesData 41 = .ok (.iload 5, 2) := by decide +kernel
theorem dX11_takesData_43 : decode cX11_takesData 43 = .ok (.goto 4, 3) := by decide +kernel
theorem dX11_takesData_46 : decode cX11_takesData 46 = .ok (.iload_n 3, 1) := by decide +kernel
theorem dX11_takesData_47 : decode cX11_takesData 47 = .ok (.istore 4, 2) := by decide +kernel
theorem dX11_takesData_49 : decode cX11_takesData 49 = .ok (.aload_n 0, 1) := by decide +kernel
theorem dX11_takesData_50 : decode cX11_takesData 50 = .ok (.getfield 7, 3) := by decide +kernel
theorem dX11_takesData_53 : decode cX11_takesData 53 = .ok (.sipush 3403, 3) := by decide +kernel
theorem dX11_takesData_56 : decode cX11_takesData 56 = .ok (.iload_n 2, 1) := by decide +kernel
theorem dX11_takesData_57 : decode cX11_takesData 57 = .ok (.iadd, 1) := by decide +kernel
theorem dX11_takesData_58 : decode cX11_takesData 58 = .ok (.iload 5, 2) := by decide +kernel
theorem dX11_takesData_60 : decode cX11_takesData 60 = .ok (.sipush 255, 3) := by decide +kernel
theorem dX11_takesData_63 : decode cX11_takesData 63 = .ok (.if_icmp .ne 7, 3) := by decide +kernel
theorem dX11_takesData_66 : decode cX11_takesData 66 = .ok (.iconst 0, 1) := by decide +kernel
theorem dX11_takesData_67 : decode cX11_takesData 67 = .ok (.goto 4, 3) := by decide +kernel
theorem dX11_takesData_70 : decode cX11_takesData 70 = .ok (.iconst 1, 1) := by decide +kernel
theorem dX11_takesData_71 : decode cX11_takesData 71 = .ok (.iastore, 1) := by decide +kernel
theorem dX11_takesData_72 : decode cX11_takesData 72 = .ok (.iconst 0, 1) := by decide +kernel
theorem dX11_takesData_73 : decode cX11_takesData 73 = .ok (.istore 5, 2) := by decide +kernel
theorem dX11_takesData_75 : decode cX11_takesData 75 = .ok (.iload 4, 2) := by decide +kernel
theorem dX11_takesData_77 : decode cX11_takesData 77 = .ok (.istore 6, 2) := by decide +kernel
theorem dX11_takesData_79 : decode cX11_takesData 79 = .ok (.iload 6, 2) := by decide +kernel
theorem dX11_takesData_81 : decode cX11_takesData 81 = .ok (.iload_n 3, 1) := by decide +kernel
theorem dX11_takesData_82 : decode cX11_takesData 82 = .ok (.if_icmp .ge 40, 3) := by decide +kernel
theorem dX11_takesData_85 : decode cX11_takesData 85 = .ok (.iload 5, 2) := by decide +kernel
theorem dX11_takesData_87 : decode cX11_takesData 87 = .ok (.aload_n 0, 1) := by decide +kernel
theorem dX11_takesData_88 : decode cX11_takesData 88 = .ok (.iload_n 2, 1) := by decide +kernel
theorem dX11_takesData_89 : decode cX11_takesData 89 = .ok (.aload_n 0, 1) := by decide +kernel
theorem dX11_takesData_90 : decode cX11_takesData 90 = .ok (.getfield 7, 3) := by decide +kernel
theorem dX11_takesData_93 : decode cX11_takesData 93 = .ok (.iload_n 1, 1) := by decide +kernel
theorem dX11_takesData_94 : decode cX11_takesData 94 = .ok (.iconst 4, 1) := by decide +kernel
theorem dX11_takesData_95 : decode cX11_takesData 95 = .ok (.iadd, 1) := by decide +kernel
theorem dX11_takesData_96 : decode cX11_takesData 96 = .ok (.iconst 4, 1) := by decide +kernel
theorem dX11_takesData_97 : decode cX11_takesData 97 = .ok (.iadd, 1) := by decide +kernel
theorem dX11_takesData_98 : decode cX11_takesData 98 = .ok (.iload 6, 2) := by decide +kernel
theorem dX11_takesData_100 : decode cX11_takesData 100 = .ok (.iadd, 1) := by decide +kernel
theorem dX11_takesData_101 : decode cX11_takesData 101 = .ok (.iaload, 1) := by decide +kernel
theorem dX11_takesData_102 : decode cX11_takesData 102 = .ok (.invokevirtual 151, 3) := by decide +kernel
theorem dX11_takesData_105 : decode cX11_takesData 105 = .ok (.ifCond .eq 7, 3) := by decide +kernel
theorem dX11_takesData_108 : decode cX11_takesData 108 = .ok (.iconst 1, 1) := by decide +kernel
theorem dX11_takesData_109 : decode cX11_takesData 109 = .ok (.goto 4, 3) := by decide +kernel
theorem dX11_takesData_112 : decode cX11_takesData 112 = .ok (.iconst 0, 1) := by decide +kernel
theorem dX11_takesData_113 : decode cX11_takesData 113 = .ok (.iadd, 1) := by decide +kernel
theorem dX11_takesData_114 : decode cX11_takesData 114 = .ok (.istore 5, 2) := by decide +kernel
theorem dX11_takesData_116 : decode cX11_takesData 116 = .ok (.iinc 6 1, 3) := by decide +kernel
theorem dX11_takesData_119 : decode cX11_takesData 119 = .ok (.goto (-40), 3) := by decide +kernel
theorem dX11_takesData_122 : decode cX11_takesData 122 = .ok (.iload 5, 2) := by decide +kernel
theorem dX11_takesData_124 : decode cX11_takesData 124 = .ok (.ireturn, 1) := by decide +kernel
theorem dX11_receives_0 : decode cX11_receives 0 = .ok (.aload_n 0, 1) := by decide +kernel
theorem dX11_receives_1 : decode cX11_receives 1 = .ok (.iload_n 1, 1) := by decide +kernel
theorem dX11_receives_2 : decode cX11_receives 2 = .ok (.invokevirtual 100, 3) := by decide +kernel
theorem dX11_receives_5 : decode cX11_receives 5 = .ok (.istore_n 2, 1) := by decide +kernel
theorem dX11_receives_6 : decode cX11_receives 6 = .ok (.aload_n 0, 1) := by decide +kernel
theorem dX11_receives_7 : decode cX11_receives 7 = .ok (.getfield 7, 3) := by decide +kernel
theorem dX11_receives_10 : decode cX11_receives 10 = .ok (.iload_n 2, 1) := by decide +kernel
theorem dX11_receives_11 : decode cX11_receives 11 = .ok (.iconst 4, 1) := by decide +kernel
theorem dX11_receives_12 : decode cX11_receives 12 = .ok (.iadd, 1) := by decide +kernel
theorem dX11_receives_13 : decode cX11_receives 13 = .ok (.iconst 1, 1) := by decide +kernel
theorem dX11_receives_14 : decode cX11_receives 14 = .ok (.iadd, 1) := by decide +kernel
theorem dX11_receives_15 : decode cX11_receives 15 = .ok (.iaload, 1) := by decide +kernel
theorem dX11_receives_16 : decode cX11_receives 16 = .ok (.istore_n 3, 1) := by decide +kernel
theorem dX11_receives_17 : decode cX11_receives 17 = .ok (.aload_n 0, 1) := by decide +kernel
theorem dX11_receives_18 : decode cX11_receives 18 = .ok (.iload_n 1, 1) := by decide +kernel
theorem dX11_receives_19 : decode cX11_receives 19 = .ok (.invokevirtual 141, 3) := by decide +kernel
theorem dX11_receives_22 : decode cX11_receives 22 = .ok (.aload_n 0, 1) := by decide +kernel
theorem dX11_receives_23 : decode cX11_receives 23 = .ok (.iload_n 1, 1) := by decide +kernel
theorem dX11_receives_24 : decode cX11_receives 24 = .ok (.invokevirtual 105, 3) := by decide +kernel
theorem dX11_receives_27 : decode cX11_receives 27 = .ok (.if_icmp .ne 16, 3) := by decide +kernel
theorem dX11_receives_30 : decode cX11_receives 30 = .ok (.iload_n 3, 1) := by decide +kernel
theorem dX11_receives_31 : decode cX11_receives 31 = .ok (.invokestatic 52, 3) := by decide +kernel
theorem dX11_receives_34 : decode cX11_receives 34 = .ok (.ifCond .ne 17, 3) := by decide +kernel
theorem dX11_receives_37 : decode cX11_receives 37 = .ok (.iload_n 3, 1) := by decide +kernel
theorem dX11_receives_38 : decode cX11_receives 38 = .ok (.bipush 7, 2) := by decide +kernel
theorem dX11_receives_40 : decode cX11_receives 40 = .ok (.if_icmp .eq 11, 3) := by decide +kernel
theorem dX11_receives_43 : decode cX11_receives 43 = .ok (.aload_n 0, 1) := by decide +kernel
theorem dX11_receives_44 : decode cX11_receives 44 = .ok (.iconst 1, 1) := by decide +kernel
theorem dX11_receives_45 : decode cX11_receives 45 = .ok (.iconst 1, 1) := by decide +kernel
theorem dX11_receives_46 : decode cX11_receives 46 = .ok (.invokevirtual 144, 3) := by decide +kernel
theorem dX11_receives_49 : decode cX11_receives 49 = .ok (.iconst 0, 1) := by decide +kernel
theorem dX11_receives_50 : decode cX11_receives 50 = .ok (.ireturn, 1) := by decide +kernel
theorem dX11_receives_51 : decode cX11_receives 51 = .ok (.aload_n 0, 1) := by decide +kernel
theorem dX11_receives_52 : decode cX11_receives 52 = .ok (.iload_n 2, 1) := by decide +kernel
theorem dX11_receives_53 : decode cX11_receives 53 = .ok (.iload_n 3, 1) := by decide +kernel
theorem dX11_receives_54 : decode cX11_receives 54 = .ok (.bipush 7, 2) := by decide +kernel
theorem dX11_receives_56 : decode cX11_receives 56 = .ok (.if_icmp .ne 7, 3) := by decide +kernel
theorem dX11_receives_59 : decode cX11_receives 59 = .ok (.iconst 4, 1) := by decide +kernel
theorem dX11_receives_60 : decode cX11_receives 60 = .ok (.goto 4, 3) := by decide +kernel
theorem dX11_receives_63 : decode cX11_receives 63 = .ok (.iload_n 3, 1) := by decide +kernel
theorem dX11_receives_64 : decode cX11_receives 64 = .ok (.invokevirtual 154, 3) := by decide +kernel
theorem dX11_receives_67 : decode cX11_receives 67 = .ok (.istore 4, 2) := by decide +kernel
theorem dX11_receives_69 : decode cX11_receives 69 = .ok (.iload_n 3, 1) := by decide +kernel
theorem dX11_receives_70 : decode cX11_receives 70 = .ok (.bipush 7, 2) := by decide +kernel
theorem dX11_receives_72 : decode cX11_receives 72 = .ok (.if_icmp .ne 11, 3) := by decide +kernel
theorem dX11_receives_75 : decode cX11_receives 75 = .ok (.aload_n 0, 1) := by decide +kernel
theorem dX11_receives_76 : decode cX11_receives 76 = .ok (.iconst 5, 1) := by decide +kernel
theorem dX11_receives_77 : decode cX11_receives 77 = .ok (.iconst 1, 1) := by decide +kernel
theorem dX11_receives_78 : decode cX11_receives 78 = .ok (.invokevirtual 144, 3) := by decide +kernel
theorem dX11_receives_81 : decode cX11_receives 81 = .ok (.iconst 0, 1) := by decide +kernel
theorem dX11_receives_82 : decode cX11_receives 82 = .ok (.ireturn, 1) := by decide +kernel
theorem dX11_receives_83 : decode cX11_receives 83 = .ok (.iload 4, 2) := by decide +kernel
theorem dX11_receives_85 : decode cX11_receives 85 = .ok (.ifCond .le 48, 3) := by decide +kernel
theorem dX11_receives_88 : decode cX11_receives 88 = .ok (.aload_n 0, 1) := by decide +kernel
theorem dX11_receives_89 : decode cX11_receives 89 = .ok (.iconst 3, 1) := by decide +kernel
theorem dX11_receives_90 : decode cX11_receives 90 = .ok (.aload_n 0, 1) := by decide +kernel
theorem dX11_receives_91 : decode cX11_receives 91 = .ok (.getfield 7, 3) := by decide +kernel
theorem dX11_receives_94 : decode cX11_receives 94 = .ok (.sipush 3407, 3) := by decide +kernel
theorem dX11_receives_97 : decode cX11_receives 97 = .ok (.iload_n 3, 1) := by decide +kernel
theorem dX11_receives_98 : decode cX11_receives 98 = .ok (.iadd, 1) := by decide +kernel
theorem dX11_receives_99 : decode cX11_receives 99 = .ok (.iaload, 1) := by decide +kernel
theorem dX11_receives_100 : decode cX11_receives 100 = .ok (.ifCond .le 7, 3) := by decide +kernel
theorem dX11_receives_103 : decode cX11_receives 103 = .ok (.iconst 1, 1) := by decide +kernel
theorem dX11_receives_104 : decode cX11_receives 104 = .ok (.goto 4, 3) := by decide +kernel
theorem dX11_receives_107 : decode cX11_receives 107 = .ok (.iconst 0, 1) := by decide +kernel
theorem dX11_receives_108 : decode cX11_receives 108 = .ok (.invokevirtual 144, 3) := by decide +kernel
theorem dX11_receives_111 : decode cX11_receives 111 = .ok (.aload_n 0, 1) := by decide +kernel
theorem dX11_receives_112 : decode cX11_receives 112 = .ok (.getfield 7, 3) := by decide +kernel
theorem dX11_receives_115 : decode cX11_receives 115 = .ok (.sipush 3407, 3) := by decide +kernel
theorem dX11_receives_118 : decode cX11_receives 118 = .ok (.iload_n 3, 1) := by decide +kernel
theorem dX11_receives_119 : decode cX11_receives 119 = .ok (.iadd, 1) := by decide +kernel
theorem dX11_receives_120 : decode cX11_receives 120 = .ok (.iconst 0, 1) := by decide +kernel
theorem dX11_receives_121 : decode cX11_receives 121 = .ok (.iastore, 1) := by decide +kernel
theorem dX11_receives_122 : decode cX11_receives 122 = .ok (.aload_n 0, 1) := by decide +kernel
theorem dX11_receives_123 : decode cX11_receives 123 = .ok (.getfield 7, 3) := by decide +kernel
theorem dX11_receives_126 : decode cX11_receives 126 = .ok (.sipush 3403, 3) := by decide +kernel
theorem dX11_receives_129 : decode cX11_receives 129 = .ok (.iload_n 3, 1) := by decide +kernel
theorem dX11_receives_130 : decode cX11_receives 130 = .ok (.iadd, 1) := by decide +kernel
theorem dX11_receives_131 : decode cX11_receives 131 = .ok (.iconst 0, 1) := by decide +kernel
theorem dX11_receives_132 : decode cX11_receives 132 = .ok (.iastore, 1) := by decide +kernel
theorem dX11_receives_133 : decode cX11_receives 133 = .ok (.iload_n 3, 1) := by decide +kernel
theorem dX11_receives_134 : decode cX11_receives 134 = .ok (.ifCond .ne 39, 3) := by decide +kernel
theorem dX11_receives_137 : decode cX11_receives 137 = .ok (.aload_n 0, 1) := by decide +kernel
theorem dX11_receives_138 : decode cX11_receives 138 = .ok (.getfield 7, 3) := by decide +kernel
theorem dX11_receives_141 : decode cX11_receives 141 = .ok (.iload_n 2, 1) := by decide +kernel
theorem dX11_receives_142 : decode cX11_receives 142 = .ok (.iconst 4, 1) := by decide +kernel
theorem dX11_receives_143 : decode cX11_receives 143 = .ok (.iadd, 1) := by decide +kernel
theorem dX11_receives_144 : decode cX11_receives 144 = .ok (.iconst 2, 1) := by decide +kernel
theorem dX11_receives_145 : decode cX11_receives 145 = .ok (.iadd, 1) := by decide +kernel
theorem dX11_receives_146 : decode cX11_receives 146 = .ok (.iaload, 1) := by decide +kernel
theorem dX11_receives_147 : decode cX11_receives 147 = .ok (.bipush 8, 2) := by decide +kernel
theorem dX11_receives_149 : decode cX11_receives 149 = .ok (.irem, 1) := by decide +kernel
theorem dX11_receives_150 : decode cX11_receives 150 = .ok (.ifCond .ne 23, 3) := by decide +kernel
theorem dX11_receives_153 : decode cX11_receives 153 = .ok (.aload_n 0, 1) := by decide +kernel
theorem dX11_receives_154 : decode cX11_receives 154 = .ok (.aload_n 0, 1) := by decide +kernel
theorem dX11_receives_155 : decode cX11_receives 155 = .ok (.getfield 7, 3) := by decide +kernel
theorem dX11_receives_158 : decode cX11_receives 158 = .ok (.iload_n 2, 1) := by decide +kernel
theorem dX11_receives_159 : decode cX11_receives 159 = .ok (.iconst 2, 1) := by decide +kernel
theorem dX11_receives_160 : decode cX11_receives 160 = .ok (.iadd, 1) := by decide +kernel
theorem dX11_receives_161 : decode cX11_receives 161 = .ok (.iaload, 1) := by decide +kernel
theorem dX11_receives_162 : decode cX11_receives 162 = .ok (.aload_n 0, 1) := by decide +kernel
theorem dX11_receives_163 : decode cX11_receives 163 = .ok (.getfield 7, 3) := by decide +kernel
theorem dX11_receives_166 : decode cX11_receives 166 = .ok (.iload_n 2, 1) := by decide +kernel
theorem dX11_receives_167 : decode cX11_receives 167 = .ok (.iconst 3, 1) := by decide +kernel
theorem dX11_receives_168 : decode cX11_receives 168 = .ok (.iadd, 1) := by decide +kernel
theorem dX11_receives_169 : decode cX11_receives 169 = .ok (.iaload, 1) := by decide +kernel
theorem dX11_receives_170 : decode cX11_receives 170 = .ok (.invokevirtual 157, 3) := by decide +kernel
theorem dX11_receives_173 : decode cX11_receives 173 = .ok (.aload_n 0, 1) := by decide +kernel
theorem dX11_receives_174 : decode cX11_receives 174 = .ok (.iload_n 2, 1) := by decide +kernel
theorem dX11_receives_175 : decode cX11_receives 175 = .ok (.iload_n 3, 1) := by decide +kernel
theorem dX11_receives_176 : decode cX11_receives 176 = .ok (.invokevirtual 160, 3) := by decide +kernel
theorem dX11_receives_179 : decode cX11_receives 179 = .ok (.ireturn, 1) := by decide +kernel
theorem dX11_receive_0 : decode cX11_receive 0 = .ok (.aload_n 0, 1) := by decide +kernel
theorem dX11_receive_1 : decode cX11_receive 1 = .ok (.iload_n 1, 1) := by decide +kernel
theorem dX11_receive_2 : decode cX11_receive 2 = .ok (.i2l, 1) := by decide +kernel
theorem dX11_receive_3 : decode cX11_receive 3 = .ok (.lconst 1, 1) := by decide +kernel
theorem dX11_receive_4 : decode cX11_receive 4 = .ok (.ldc2_w 125, 3) := by decide +kernel
theorem dX11_receive_7 : decode cX11_receive 7 = .ok (.invokestatic 23, 3) := by decide +kernel
theorem dX11_receive_10 : decode cX11_receive 10 = .ok (.ifCond .ne 7, 3) := by decide +kernel
theorem dX11_receive_13 : decode cX11_receive 13 = .ok (.iconst 1, 1) := by decide +kernel
theorem dX11_receive_14 : decode cX11_receive 14 = .ok (.goto 20, 3) := by decide +kernel
theorem dX11_receive_17 : decode cX11_receive 17 = .ok (.iload_n 1, 1) := by decide +kernel
theorem dX11_receive_18 : decode cX11_receive 18 = .ok (.aload_n 0, 1) := by decide +kernel
theorem dX11_receive_19 : decode cX11_receive 19 = .ok (.getfield 7, 3) := by decide +kernel
theorem dX11_receive_22 : decode cX11_receive 22 = .ok (.sipush 382, 3) := by decide +kernel
theorem dX11_receive_25 : decode cX11_receive 25 = .ok (.iaload, 1) := by decide +kernel
theorem dX11_receive_26 : decode cX11_receive 26 = .ok (.if_icmp .le 7, 3) := by decide +kernel
theorem dX11_receive_29 : decode cX11_receive 29 = .ok (.iconst 2, 1) := by decide +kernel
theorem dX11_receive_30 : decode cX11_receive 30 = .ok (.goto 4, 3) := by decide +kernel
theorem dX11_receive_33 : decode cX11_receive 33 = .ok (.iconst 0, 1) := by decide +kernel
theorem dX11_receive_34 : decode cX11_receive 34 = .ok (.invokevirtual 30, 3) := by decide +kernel
theorem dX11_receive_37 : decode cX11_receive 37 = .ok (.ifCond .eq 5, 3) := by decide +kernel
theorem dX11_receive_40 : decode cX11_receive 40 = .ok (.iconst 0, 1) := by decide +kernel
theorem dX11_receive_41 : decode cX11_receive 41 = .ok (.ireturn, 1) := by decide +kernel
theorem dX11_receive_42 : decode cX11_receive 42 = .ok (.aload_n 0, 1) := by decide +kernel
theorem dX11_receive_43 : decode cX11_receive 43 = .ok (.invokevirtual 49, 3) := by decide +kernel
theorem dX11_receive_46 : decode cX11_receive 46 = .ok (.iconst 0, 1) := by decide +kernel
theorem dX11_receive_47 : decode cX11_receive 47 = .ok (.istore_n 2, 1) := by decide +kernel
theorem dX11_receive_48 : decode cX11_receive 48 = .ok (.iconst 0, 1) := by decide +kernel
theorem dX11_receive_49 : decode cX11_receive 49 = .ok (.istore_n 3, 1) := by decide +kernel
theorem dX11_receive_50 : decode cX11_receive 50 = .ok (.iload_n 3, 1) := by decide +kernel
theorem dX11_receive_51 : decode cX11_receive 51 = .ok (.iload_n 1, 1) := by decide +kernel
theorem dX11_receive_52 : decode cX11_receive 52 = .ok (.if_icmp .ge 37, 3) := by decide +kernel
theorem dX11_receive_55 : decode cX11_receive 55 = .ok (.iload_n 2, 1) := by decide +kernel
theorem dX11_receive_56 : decode cX11_receive 56 = .ok (.aload_n 0, 1) := by decide +kernel
theorem dX11_receive_57 : decode cX11_receive 57 = .ok (.getfield 7, 3) := by decide +kernel
theorem dX11_receive_60 : decode cX11_receive 60 = .ok (.aload_n 0, 1) := by decide +kernel
theorem dX11_receive_61 : decode cX11_receive 61 = .ok (.iload_n 3, 1) := by decide +kernel
theorem dX11_receive_62 : decode cX11_receive 62 = .ok (.invokevirtual 100, 3) := by decide +kernel
theorem dX11_receive_65 : decode cX11_receive 65 = .ok (.iconst 1, 1) := by decide +kernel
theorem dX11_receive_66 : decode cX11_receive 66 = .ok (.iadd, 1) := by decide +kernel
theorem dX11_receive_67 : decode cX11_receive 67 = .ok (.iaload, 1) := by decide +kernel
theorem dX11_receive_68 : decode cX11_receive 68 = .ok (.iconst 1, 1) := by decide +kernel
theorem dX11_receive_69 : decode cX11_receive 69 = .ok (.if_icmp .ne 7, 3) := by decide +kernel
theorem dX11_receive_72 : decode cX11_receive 72 = .ok (.iconst 0, 1) := by decide +kernel
theorem dX11_receive_73 : decode cX11_receive 73 = .ok (.goto 8, 3) := by decide +kernel
theorem dX11_receive_76 : decode cX11_receive 76 = .ok (.aload_n 0, 1) := by decide +kernel
theorem dX11_receive_77 : decode cX11_receive 77 = .ok (.iload_n 3, 1) := by decide +kernel
theorem dX11_receive_78 : decode cX11_receive 78 = .ok (.invokevirtual 163, 3) := by decide +kernel
theorem dX11_receive_81 : decode cX11_receive 81 = .ok (.iadd, 1) := by decide +kernel
theorem dX11_receive_82 : decode cX11_receive 82 = .ok (.istore_n 2, 1) := by decide +kernel
theorem dX11_receive_83 : decode cX11_receive 83 = .ok (.iinc 3 1, 3) := by decide +kernel
theorem dX11_receive_86 : decode cX11_receive 86 = .ok (.goto (-36), 3) := by decide +kernel
theorem dX11_receive_89 : decode cX11_receive 89 = .ok (.aload_n 0, 1) := by decide +kernel
theorem dX11_receive_90 : decode cX11_receive 90 = .ok (.getfield 7, 3) := by decide +kernel
theorem dX11_receive_93 : decode cX11_receive 93 = .ok (.sipush 382, 3) := by decide +kernel
theorem dX11_receive_96 : decode cX11_receive 96 = .ok (.dup2, 1) := by decide +kernel
theorem dX11_receive_97 : decode cX11_receive 97 = .ok (.iaload, 1) := by decide +kernel
theorem dX11_receive_98 : decode cX11_receive 98 = .ok (.iload_n 1, 1) := by decide +kernel
theorem dX11_receive_99 : decode cX11_receive 99 = .ok (.isub, 1) := by decide +kernel
theorem dX11_receive_100 : decode cX11_receive 100 = .ok (.iastore, 1) := by decide +kernel
theorem dX11_receive_101 : decode cX11_receive 101 = .ok (.sipush 383, 3) := by decide +kernel
theorem dX11_receive_104 : decode cX11_receive 104 = .ok (.istore_n 3, 1) := by decide +kernel
theorem dX11_receive_105 : decode cX11_receive 105 = .ok (.iload_n 3, 1) := by decide +kernel
theorem dX11_receive_106 : decode cX11_receive 106 = .ok (.sipush 383, 3) := by decide +kernel
theorem dX11_receive_109 : decode cX11_receive 109 = .ok (.bipush 50, 2) := by decide +kernel
theorem dX11_receive_111 : decode cX11_receive 111 = .ok (.aload_n 0, 1) := by decide +kernel
theorem dX11_receive_112 : decode cX11_receive 112 = .ok (.getfield 7, 3) := by decide +kernel
theorem dX11_receive_115 : decode cX11_receive 115 = .ok (.sipush 382, 3) := by decide +kernel
theorem dX11_receive_118 : decode cX11_receive 118 = .ok (.iaload, 1) := by decide +kernel
theorem dX11_receive_119 : decode cX11_receive 119 = .ok (.imul, 1) := by decide +kernel
theorem dX11_receive_120 : decode cX11_receive 120 = .ok (.iadd, 1) := by decide +kernel
theorem dX11_receive_121 : decode cX11_receive 121 = .ok (.if_icmp .ge 26, 3) := by decide +kernel
theorem dX11_receive_124 : decode cX11_receive 124 = .ok (.aload_n 0, 1) := by decide +kernel
theorem dX11_receive_125 : decode cX11_receive 125 = .ok (.getfield 7, 3) := by decide +kernel
theorem dX11_receive_128 : decode cX11_receive 128 = .ok (.iload_n 3, 1) := by decide +kernel
theorem dX11_receive_129 : decode cX11_receive 129 = .ok (.aload_n 0, 1) := by decide +kernel
theorem dX11_receive_130 : decode cX11_receive 130 = .ok (.getfield 7, 3) := by decide +kernel
theorem dX11_receive_133 : decode cX11_receive 133 = .ok (.iload_n 3, 1) := by decide +kernel
theorem dX11_receive_134 : decode cX11_receive 134 = .ok (.bipush 50, 2) := by decide +kernel
theorem dX11_receive_136 : decode cX11_receive 136 = .ok (.iload_n 1, 1) := by decide +kernel
theorem dX11_receive_137 : decode cX11_receive 137 = .ok (.imul, 1) := by decide +kernel
theorem dX11_receive_138 : decode cX11_receive 138 = .ok (.iadd, 1) := by decide +kernel
theorem dX11_receive_139 : decode cX11_receive 139 = .ok (.iaload, 1) := by decide +kernel
theorem dX11_receive_140 : decode cX11_receive 140 = .ok (.iastore, 1) := by decide +kernel
theorem dX11_receive_141 : decode cX11_receive 141 = .ok (.iinc 3 1, 3) := by decide +kernel
theorem dX11_receive_144 : decode cX11_receive 144 = .ok (.goto (-39), 3) := by decide +kernel
theorem dX11_receive_147 : decode cX11_receive 147 = .ok (.iload_n 2, 1) := by decide +kernel
theorem dX11_receive_148 : decode cX11_receive 148 = .ok (.ireturn, 1) := by decide +kernel
theorem dX11_count_0 : decode cX11_count 0 = .ok (.aload_n 0, 1) := by decide +kernel
theorem dX11_count_1 : decode cX11_count 1 = .ok (.iload_n 1, 1) := by decide +kernel
theorem dX11_count_2 : decode cX11_count 2 = .ok (.i2l, 1) := by decide +kernel
theorem dX11_count_3 : decode cX11_count 3 = .ok (.lconst 0, 1) := by decide +kernel
theorem dX11_count_4 : decode cX11_count 4 = .ok (.ldc2_w 166, 3) := by decide +kernel
theorem dX11_count_7 : decode cX11_count 7 = .ok (.invokestatic 23, 3) := by decide +kernel
theorem dX11_count_10 : decode cX11_count 10 = .ok (.ifCond .eq 7, 3) := by decide +kernel
theorem dX11_count_13 : decode cX11_count 13 = .ok (.iconst 0, 1) := by decide +kernel
theorem dX11_count_14 : decode cX11_count 14 = .ok (.goto 4, 3) := by decide +kernel
theorem dX11_count_17 : decode cX11_count 17 = .ok (.iconst 1, 1) := by decide +kernel
theorem dX11_count_18 : decode cX11_count 18 = .ok (.invokevirtual 30, 3) := by decide +kernel
theorem dX11_count_21 : decode cX11_count 21 = .ok (.ifCond .eq 7, 3) := by decide +kernel
theorem dX11_count_24 : decode cX11_count 24 = .ok (.iconst 0, 1) := by decide +kernel
theorem dX11_count_25 : decode cX11_count 25 = .ok (.goto 13, 3) := by decide +kernel
theorem dX11_count_28 : decode cX11_count 28 = .ok (.aload_n 0, 1) := by decide +kernel
theorem dX11_count_29 : decode cX11_count 29 = .ok (.getfield 7, 3) := by decide +kernel
theorem dX11_count_32 : decode cX11_count 32 = .ok (.sipush 3383, 3) := by decide +kernel
theorem dX11_count_35 : decode cX11_count 35 = .ok (.iload_n 1, 1) := by decide +kernel
theorem dX11_count_36 : decode cX11_count 36 = .ok (.iadd, 1) := by decide +kernel
theorem dX11_count_37 : decode cX11_count 37 = .ok (.iaload, 1) := by decide +kernel
theorem dX11_count_38 : decode cX11_count 38 = .ok (.ireturn, 1) := by decide +kernel
theorem dX11_receivedOf_0 : decode cX11_receivedOf 0 = .ok (.iload_n 2, 1) := by decide +kernel
theorem dX11_receivedOf_1 : decode cX11_receivedOf 1 = .ok (.ifCond .ne 16, 3) := by decide +kernel
theorem dX11_receivedOf_4 : decode cX11_receivedOf 4 = .ok (.aload_n 0, 1) := by decide +kernel
theorem dX11_receivedOf_5 : decode cX11_receivedOf 5 = .ok (.getfield 7, 3) := by decide +kernel
theorem dX11_receivedOf_8 : decode cX11_receivedOf 8 = .ok (.sipush 3395, 3) := by decide +kernel
theorem dX11_receivedOf_11 : decode cX11_receivedOf 11 = .ok (.iload_n 1, 1) := by decide +kernel
theorem dX11_receivedOf_12 : decode cX11_receivedOf 12 = .ok (.iadd, 1) := by decide +kernel
theorem dX11_receivedOf_13 : decode cX11_receivedOf 13 = .ok (.iaload, 1) := by decide +kernel
theorem dX11_receivedOf_14 : decode cX11_receivedOf 14 = .ok (.goto 49, 3) := by decide +kernel
theorem dX11_receivedOf_17 : decode cX11_receivedOf 17 = .ok (.iload_n 2, 1) := by decide +kernel
theorem dX11_receivedOf_18 : decode cX11_receivedOf 18 = .ok (.iconst 1, 1) := by decide +kernel
theorem dX11_receivedOf_19 : decode cX11_receivedOf 19 = .ok (.if_icmp .ne 16, 3) := by decide +kernel
theorem dX11_receivedOf_22 : decode cX11_receivedOf 22 = .ok (.aload_n 0, 1) := by decide +kernel
theorem dX11_receivedOf_23 : decode cX11_receivedOf 23 = .ok (.getfield 7, 3) := by decide +kernel
theorem dX11_receivedOf_26 : decode cX11_receivedOf 26 = .ok (.sipush 3399, 3) := by decide +kernel
theorem dX11_receivedOf_29 : decode cX11_receivedOf 29 = .ok (.iload_n 1, 1) := by decide +kernel
theorem dX11_receivedOf_30 : decode cX11_receivedOf 30 = .ok (.iadd, 1) := by decide +kernel
theorem dX11_receivedOf_31 : decode cX11_receivedOf 31 = .ok (.iaload, 1) := by decide +kernel
theorem dX11_receivedOf_32 : decode cX11_receivedOf 32 = .ok (.goto 31, 3) := by decide +kernel
theorem dX11_receivedOf_35 : decode cX11_receivedOf 35 = .ok (.iload_n 2, 1) := by decide +kernel
theorem dX11_receivedOf_36 : decode cX11_receivedOf 36 = .ok (.iconst 2, 1) := by decide +kernel
theorem dX11_receivedOf_37 : decode cX11_receivedOf 37 = .ok (.if_icmp .ne 16, 3) := by decide +kernel
theorem dX11_receivedOf_40 : decode cX11_receivedOf 40 = .ok (.aload_n 0, 1) := by decide +kernel
theorem dX11_receivedOf_41 : decode cX11_receivedOf 41 = .ok (.getfield 7, 3) := by decide +kernel
theorem dX11_receivedOf_44 : decode cX11_receivedOf 44 = .ok (.sipush 3407, 3) := by decide +kernel
theorem dX11_receivedOf_47 : decode cX11_receivedOf 47 = .ok (.iload_n 1, 1) := by decide +kernel
theorem dX11_receivedOf_48 : decode cX11_receivedOf 48 = .ok (.iadd, 1) := by decide +kernel
theorem dX11_receivedOf_49 : decode cX11_receivedOf 49 = .ok (.iaload, 1) := by decide +kernel
theorem dX11_receivedOf_50 : decode cX11_receivedOf 50 = .ok (.goto 13, 3) := by decide +kernel
theorem dX11_receivedOf_53 : decode cX11_receivedOf 53 = .ok (.aload_n 0, 1) := by decide +kernel
theorem dX11_receivedOf_54 : decode cX11_receivedOf 54 = .ok (.getfield 7, 3) := by decide +kernel
theorem dX11_receivedOf_57 : decode cX11_receivedOf 57 = .ok (.sipush 3403, 3) := by decide +kernel
theorem dX11_receivedOf_60 : decode cX11_receivedOf 60 = .ok (.iload_n 1, 1) := by decide +kernel
theorem dX11_receivedOf_61 : decode cX11_receivedOf 61 = .ok (.iadd, 1) := by decide +kernel
theorem dX11_receivedOf_62 : decode cX11_receivedOf 62 = .ok (.iaload, 1) := by decide +kernel
theorem dX11_receivedOf_63 : decode cX11_receivedOf 63 = .ok (.ireturn, 1) := by decide +kernel
theorem dX11_received_0 : decode cX11_received 0 = .ok (.aload_n 0, 1) := by decide +kernel
theorem dX11_received_1 : decode cX11_received 1 = .ok (.iload_n 1, 1) := by decide +kernel
theorem dX11_received_2 : decode cX11_received 2 = .ok (.invokestatic 52, 3) := by decide +kernel
theorem dX11_received_5 : decode cX11_received 5 = .ok (.ifCond .ne 7, 3) := by decide +kernel
theorem dX11_received_8 : decode cX11_received 8 = .ok (.iconst 1, 1) := by decide +kernel
theorem dX11_received_9 : decode cX11_received 9 = .ok (.goto 20, 3) := by decide +kernel
theorem dX11_received_12 : decode cX11_received 12 = .ok (.iload_n 2, 1) := by decide +kernel
theorem dX11_received_13 : decode cX11_received 13 = .ok (.i2l, 1) := by decide +kernel
theorem dX11_received_14 : decode cX11_received 14 = .ok (.lconst 0, 1) := by decide +kernel
theorem dX11_received_15 : decode cX11_received 15 = .ok (.ldc2_w 21, 3) := by decide +kernel
theorem dX11_received_18 : decode cX11_received 18 = .ok (.invokestatic 23, 3) := by decide +kernel
theorem dX11_received_21 : decode cX11_received 21 = .ok (.ifCond .eq 7, 3) := by decide +kernel
theorem dX11_received_24 : decode cX11_received 24 = .ok (.iconst 0, 1) := by decide +kernel
theorem dX11_received_25 : decode cX11_received 25 = .ok (.goto 4, 3) := by decide +kernel
theorem dX11_received_28 : decode cX11_received 28 = .ok (.iconst 2, 1) := by decide +kernel
theorem dX11_received_29 : decode cX11_received 29 = .ok (.invokevirtual 30, 3) := by decide +kernel
theorem dX11_received_32 : decode cX11_received 32 = .ok (.ifCond .eq 7, 3) := by decide +kernel
theorem dX11_received_35 : decode cX11_received 35 = .ok (.iconst 0, 1) := by decide +kernel
theorem dX11_received_36 : decode cX11_received 36 = .ok (.goto 9, 3) := by decide +kernel
theorem dX11_received_39 : decode cX11_received 39 = .ok (.aload_n 0, 1) := by decide +kernel
theorem dX11_received_40 : decode cX11_received 40 = .ok (.iload_n 1, 1) := by decide +kernel
theorem dX11_received_41 : decode cX11_received 41 = .ok (.iload_n 2, 1) := by decide +kernel
theorem dX11_received_42 : decode cX11_received 42 = .ok (.invokevirtual 168, 3) := by decide +kernel
theorem dX11_received_45 : decode cX11_received 45 = .ok (.ireturn, 1) := by decide +kernel
theorem dX11_application_0 : decode cX11_application 0 = .ok (.aload_n 0, 1) := by decide +kernel
theorem dX11_application_1 : decode cX11_application 1 = .ok (.iload_n 1, 1) := by decide +kernel
theorem dX11_application_2 : decode cX11_application 2 = .ok (.i2l, 1) := by decide +kernel
theorem dX11_application_3 : decode cX11_application 3 = .ok (.lconst 0, 1) := by decide +kernel
theorem dX11_application_4 : decode cX11_application 4 = .ok (.ldc2_w 65, 3) := by decide +kernel
theorem dX11_application_7 : decode cX11_application 7 = .ok (.invokestatic 23, 3) := by decide +kernel
theorem dX11_application_10 : decode cX11_application 10 = .ok (.ifCond .ne 7, 3) := by decide +kernel
theorem dX11_application_13 : decode cX11_application 13 = .ok (.iconst 1, 1) := by decide +kernel
theorem dX11_application_14 : decode cX11_application 14 = .ok (.goto 20, 3) := by decide +kernel
theorem dX11_application_17 : decode cX11_application 17 = .ok (.iload_n 2, 1) := by decide +kernel
theorem dX11_application_18 : decode cX11_application 18 = .ok (.i2l, 1) := by decide +kernel
theorem dX11_application_19 : decode cX11_application 19 = .ok (.lconst 0, 1) := by decide +kernel
theorem dX11_application_20 : decode cX11_application 20 = .ok (.ldc2_w 76, 3) := by decide +kernel
theorem dX11_application_23 : decode cX11_application 23 = .ok (.invokestatic 23, 3) := by decide +kernel
theorem dX11_application_26 : decode cX11_application 26 = .ok (.ifCond .eq 7, 3) := by decide +kernel
theorem dX11_application_29 : decode cX11_application 29 = .ok (.iconst 0, 1) := by decide +kernel
theorem dX11_application_30 : decode cX11_application 30 = .ok (.goto 4, 3) := by decide +kernel
theorem dX11_application_33 : decode cX11_application 33 = .ok (.iconst 2, 1) := by decide +kernel
theorem dX11_application_34 : decode cX11_application 34 = .ok (.invokevirtual 30, 3) := by decide +kernel
theorem dX11_application_37 : decode cX11_application 37 = .ok (.ifCond .eq 7, 3) := by decide +kernel
theorem dX11_application_40 : decode cX11_application 40 = .ok (.iconst 0, 1) := by decide +kernel
theorem dX11_application_41 : decode cX11_application 41 = .ok (.goto 17, 3) := by decide +kernel
theorem dX11_application_44 : decode cX11_application 44 = .ok (.aload_n 0, 1) := by decide +kernel
theorem dX11_application_45 : decode cX11_application 45 = .ok (.getfield 7, 3) := by decide +kernel
theorem dX11_application_48 : decode cX11_application 48 = .ok (.sipush 4443, 3) := by decide +kernel
theorem dX11_application_51 : decode cX11_application 51 = .ok (.iconst 4, 1) := by decide +kernel
theorem dX11_application_52 : decode cX11_application 52 = .ok (.iload_n 1, 1) := by decide +kernel
theorem dX11_application_53 : decode cX11_application 53 = .ok (.imul, 1) := by decide +kernel
theorem dX11_application_54 : decode cX11_application 54 = .ok (.iadd, 1) := by decide +kernel
theorem dX11_application_55 : decode cX11_application 55 = .ok (.iload_n 2, 1) := by decide +kernel
theorem dX11_application_56 : decode cX11_application 56 = .ok (.iadd, 1) := by decide +kernel
theorem dX11_application_57 : decode cX11_application 57 = .ok (.iaload, 1) := by decide +kernel
theorem dX11_application_58 : decode cX11_application 58 = .ok (.ireturn, 1) := by decide +kernel
theorem dX11_packets_0 : decode cX11_packets 0 = .ok (.aload_n 0, 1) := by decide +kernel
theorem dX11_packets_1 : decode cX11_packets 1 = .ok (.iconst 0, 1) := by decide +kernel
theorem dX11_packets_2 : decode cX11_packets 2 = .ok (.putfield 17, 3) := by decide +kernel
theorem dX11_packets_5 : decode cX11_packets 5 = .ok (.aload_n 0, 1) := by decide +kernel
theorem dX11_packets_6 : decode cX11_packets 6 = .ok (.getfield 7, 3) := by decide +kernel
theorem dX11_packets_9 : decode cX11_packets 9 = .ok (.sipush 4503, 3) := by decide +kernel
theorem dX11_packets_12 : decode cX11_packets 12 = .ok (.iaload, 1) := by decide +kernel
theorem dX11_packets_13 : decode cX11_packets 13 = .ok (.ireturn, 1) := by decide +kernel
theorem dX11_isPacket_0 : decode cX11_isPacket 0 = .ok (.iload_n 1, 1) := by decide +kernel
theorem dX11_isPacket_1 : decode cX11_isPacket 1 = .ok (.i2l, 1) := by decide +kernel
theorem dX11_isPacket_2 : decode cX11_isPacket 2 = .ok (.lconst 0, 1) := by decide +kernel
theorem dX11_isPacket_3 : decode cX11_isPacket 3 = .ok (.aload_n 0, 1) := by decide +kernel
theorem dX11_isPacket_4 : decode cX11_isPacket 4 = .ok (.getfield 7, 3) := by decide +kernel
theorem dX11_isPacket_7 : decode cX11_isPacket 7 = .ok (.sipush 4503, 3) := by decide +kernel
theorem dX11_isPacket_10 : decode cX11_isPacket 10 = .ok (.iaload, 1) := by decide +kernel
theorem dX11_isPacket_11 : decode cX11_isPacket 11 = .ok (.iconst 1, 1) := by decide +kernel
theorem dX11_isPacket_12 : decode cX11_isPacket 12 = .ok (.isub, 1) := by decide +kernel
theorem dX11_isPacket_13 : decode cX11_isPacket 13 = .ok (.i2l, 1) := by decide +kernel
theorem dX11_isPacket_14 : decode cX11_isPacket 14 = .ok (.invokestatic 23, 3) := by decide +kernel
theorem dX11_isPacket_17 : decode cX11_isPacket 17 = .ok (.ireturn, 1) := by decide +kernel
theorem dX11_packet_0 : decode cX11_packet 0 = .ok (.aload_n 0, 1) := by decide +kernel
theorem dX11_packet_1 : decode cX11_packet 1 = .ok (.aload_n 0, 1) := by decide +kernel
theorem dX11_packet_2 : decode cX11_packet 2 = .ok (.iload_n 1, 1) := by decide +kernel
theorem dX11_packet_3 : decode cX11_packet 3 = .ok (.invokevirtual 171, 3) := by decide +kernel
theorem dX11_packet_6 : decode cX11_packet 6 = .ok (.ifCond .ne 7, 3) := by decide +kernel
theorem dX11_packet_9 : decode cX11_packet 9 = .ok (.iconst 1, 1) := by decide +kernel
theorem dX11_packet_10 : decode cX11_packet 10 = .ok (.goto 20, 3) := by decide +kernel
theorem dX11_packet_13 : decode cX11_packet 13 = .ok (.iload_n 2, 1) := by decide +kernel
theorem dX11_packet_14 : decode cX11_packet 14 = .ok (.i2l, 1) := by decide +kernel
theorem dX11_packet_15 : decode cX11_packet 15 = .ok (.lconst 0, 1) := by decide +kernel
theorem dX11_packet_16 : decode cX11_packet 16 = .ok (.ldc2_w 174, 3) := by decide +kernel
theorem dX11_packet_19 : decode cX11_packet 19 = .ok (.invokestatic 23, 3) := by decide +kernel
theorem dX11_packet_22 : decode cX11_packet 22 = .ok (.ifCond .eq 7, 3) := by decide +kernel
theorem dX11_packet_25 : decode cX11_packet 25 = .ok (.iconst 0, 1) := by decide +kernel
theorem dX11_packet_26 : decode cX11_packet 26 = .ok (.goto 4, 3) := by decide +kernel
theorem dX11_packet_29 : decode cX11_packet 29 = .ok (.iconst 2, 1) := by decide +kernel
theorem dX11_packet_30 : decode cX11_packet 30 = .ok (.invokevirtual 30, 3) := by decide +kernel
theorem dX11_packet_33 : decode cX11_packet 33 = .ok (.ifCond .eq 7, 3) := by decide +kernel
theorem dX11_packet_36 : decode cX11_packet 36 = .ok (.iconst 0, 1) := by decide +kernel
theorem dX11_packet_37 : decode cX11_packet 37 = .ok (.goto 19, 3) := by decide +kernel
theorem dX11_packet_40 : decode cX11_packet 40 = .ok (.aload_n 0, 1) := by decide +kernel
theorem dX11_packet_41 : decode cX11_packet 41 = .ok (.getfield 7, 3) := by decide +kernel
theorem dX11_packet_44 : decode cX11_packet 44 = .ok (.sipush 4504, 3) := by decide +kernel
theorem dX11_packet_47 : decode cX11_packet 47 = .ok (.sipush 260, 3) := by decide +kernel
theorem dX11_packet_50 : decode cX11_packet 50 = .ok (.iload_n 1, 1) := by decide +kernel
theorem dX11_packet_51 : decode cX11_packet 51 = .ok (.imul, 1) := by decide +kernel
theorem dX11_packet_52 : decode cX11_packet 52 = .ok (.iadd, 1) := by decide +kernel
theorem dX11_packet_53 : decode cX11_packet 53 = .ok (.iload_n 2, 1) := by decide +kernel
theorem dX11_packet_54 : decode cX11_packet 54 = .ok (.iadd, 1) := by decide +kernel
theorem dX11_packet_55 : decode cX11_packet 55 = .ok (.iaload, 1) := by decide +kernel
theorem dX11_packet_56 : decode cX11_packet 56 = .ok (.ireturn, 1) := by decide +kernel
theorem dX11_packetByte_0 : decode cX11_packetByte 0 = .ok (.aload_n 0, 1) := by decide +kernel
theorem dX11_packetByte_1 : decode cX11_packetByte 1 = .ok (.iload_n 1, 1) := by decide +kernel
theorem dX11_packetByte_2 : decode cX11_packetByte 2 = .ok (.invokevirtual 171, 3) := by decide +kernel
theorem dX11_packetByte_5 : decode cX11_packetByte 5 = .ok (.ifCond .eq 35, 3) := by decide +kernel
theorem dX11_packetByte_8 : decode cX11_packetByte 8 = .ok (.iload_n 2, 1) := by decide +kernel
theorem dX11_packetByte_9 : decode cX11_packetByte 9 = .ok (.i2l, 1) := by decide +kernel
theorem dX11_packetByte_10 : decode cX11_packetByte 10 = .ok (.lconst 0, 1) := by decide +kernel
theorem dX11_packetByte_11 : decode cX11_packetByte 11 = .ok (.aload_n 0, 1) := by decide +kernel
theorem dX11_packetByte_12 : decode cX11_packetByte 12 = .ok (.getfield 7, 3) := by decide +kernel
theorem dX11_packetByte_15 : decode cX11_packetByte 15 = .ok (.sipush 4504, 3) := by decide +kernel
theorem dX11_packetByte_18 : decode cX11_packetByte 18 = .ok (.sipush 260, 3) := by decide +kernel
theorem dX11_packetByte_21 : decode cX11_packetByte 21 = .ok (.iload_n 1, 1) := by decide +kernel
theorem dX11_packetByte_22 : decode cX11_packetByte 22 = .ok (.imul, 1) := by decide +kernel
theorem dX11_packetByte_23 : decode cX11_packetByte 23 = .ok (.iadd, 1) := by decide +kernel
theorem dX11_packetByte_24 : decode cX11_packetByte 24 = .ok (.iconst 3, 1) := by decide +kernel
theorem dX11_packetByte_25 : decode cX11_packetByte 25 = .ok (.iadd, 1) := by decide +kernel
theorem dX11_packetByte_26 : decode cX11_packetByte 26 = .ok (.iaload, 1) := by decide +kernel
theorem dX11_packetByte_27 : decode cX11_packetByte 27 = .ok (.iconst 1, 1) := by decide +kernel
theorem dX11_packetByte_28 : decode cX11_packetByte 28 = .ok (.isub, 1) := by decide +kernel
theorem dX11_packetByte_29 : decode cX11_packetByte 29 = .ok (.i2l, 1) := by decide +kernel
theorem dX11_packetByte_30 : decode cX11_packetByte 30 = .ok (.invokestatic 23, 3) := by decide +kernel
theorem dX11_packetByte_33 : decode cX11_packetByte 33 = .ok (.ifCond .eq 7, 3) := by decide +kernel
theorem dX11_packetByte_36 : decode cX11_packetByte 36 = .ok (.iconst 1, 1) := by decide +kernel
theorem dX11_packetByte_37 : decode cX11_packetByte 37 = .ok (.goto 4, 3) := by decide +kernel
theorem dX11_packetByte_40 : decode cX11_packetByte 40 = .ok (.iconst 0, 1) := by decide +kernel
theorem dX11_packetByte_41 : decode cX11_packetByte 41 = .ok (.istore_n 3, 1) := by decide +kernel
theorem dX11_packetByte_42 : decode cX11_packetByte 42 = .ok (.aload_n 0, 1) := by decide +kernel
theorem dX11_packetByte_43 : decode cX11_packetByte 43 = .ok (.iload_n 3, 1) := by decide +kernel
theorem dX11_packetByte_44 : decode cX11_packetByte 44 = .ok (.ifCond .eq 7, 3) := by decide +kernel
theorem dX11_packetByte_47 : decode cX11_packetByte 47 = .ok (.iconst 0, 1) := by decide +kernel
theorem dX11_packetByte_48 : decode cX11_packetByte 48 = .ok (.goto 4, 3) := by decide +kernel
theorem dX11_packetByte_51 : decode cX11_packetByte 51 = .ok (.iconst 1, 1) := by decide +kernel
theorem dX11_packetByte_52 : decode cX11_packetByte 52 = .ok (.invokevirtual 30, 3) := by decide +kernel
theorem dX11_packetByte_55 : decode cX11_packetByte 55 = .ok (.ifCond .eq 7, 3) := by decide +kernel
theorem dX11_packetByte_58 : decode cX11_packetByte 58 = .ok (.iconst 0, 1) := by decide +kernel
theorem dX11_packetByte_59 : decode cX11_packetByte 59 = .ok (.goto 21, 3) := by decide +kernel
theorem dX11_packetByte_62 : decode cX11_packetByte 62 = .ok (.aload_n 0, 1) := by decide +kernel
theorem dX11_packetByte_63 : decode cX11_packetByte 63 = .ok (.getfield 7, 3) := by decide +kernel
theorem dX11_packetByte_66 : decode cX11_packetByte 66 = .ok (.sipush 4504, 3) := by decide +kernel
theorem dX11_packetByte_69 : decode cX11_packetByte 69 = .ok (.sipush 260, 3) := by decide +kernel
theorem dX11_packetByte_72 : decode cX11_packetByte 72 = .ok (.iload_n 1, 1) := by decide +kernel
theorem dX11_packetByte_73 : decode cX11_packetByte 73 = .ok (.imul, 1) := by decide +kernel
theorem dX11_packetByte_74 : decode cX11_packetByte 74 = .ok (.iadd, 1) := by decide +kernel
theorem dX11_packetByte_75 : decode cX11_packetByte 75 = .ok (.iconst 5, 1) := by decide +kernel
theorem dX11_packetByte_76 : decode cX11_packetByte 76 = .ok (.iadd, 1) := by decide +kernel
theorem dX11_packetByte_77 : decode cX11_packetByte 77 = .ok (.iload_n 2, 1) := by decide +kernel
theorem dX11_packetByte_78 : decode cX11_packetByte 78 = .ok (.iadd, 1) := by decide +kernel
theorem dX11_packetByte_79 : decode cX11_packetByte 79 = .ok (.iaload, 1) := by decide +kernel
theorem dX11_packetByte_80 : decode cX11_packetByte 80 = .ok (.ireturn, 1) := by decide +kernel
theorem dX11_clock_0 : decode cX11_clock 0 = .ok (.aload_n 0, 1) := by decide +kernel
theorem dX11_clock_1 : decode cX11_clock 1 = .ok (.iconst 0, 1) := by decide +kernel
theorem dX11_clock_2 : decode cX11_clock 2 = .ok (.putfield 17, 3) := by decide +kernel
theorem dX11_clock_5 : decode cX11_clock 5 = .ok (.aload_n 0, 1) := by decide +kernel
theorem dX11_clock_6 : decode cX11_clock 6 = .ok (.invokevirtual 114, 3) := by decide +kernel
theorem dX11_clock_9 : decode cX11_clock 9 = .ok (.lreturn, 1) := by decide +kernel
theorem dX11_timePairs_0 : decode cX11_timePairs 0 = .ok (.aload_n 0, 1) := by decide +kernel
theorem dX11_timePairs_1 : decode cX11_timePairs 1 = .ok (.iconst 0, 1) := by decide +kernel
theorem dX11_timePairs_2 : decode cX11_timePairs 2 = .ok (.putfield 17, 3) := by decide +kernel
theorem dX11_timePairs_5 : decode cX11_timePairs 5 = .ok (.aload_n 0, 1) := by decide +kernel
theorem dX11_timePairs_6 : decode cX11_timePairs 6 = .ok (.getfield 7, 3) := by decide +kernel
theorem dX11_timePairs_9 : decode cX11_timePairs 9 = .ok (.sipush 12304, 3) := by decide +kernel
theorem dX11_timePairs_12 : decode cX11_timePairs 12 = .ok (.iaload, 1) := by decide +kernel
theorem dX11_timePairs_13 : decode cX11_timePairs 13 = .ok (.ireturn, 1) := by decide +kernel
theorem dX11_groundTime_0 : decode cX11_groundTime 0 = .ok (.aload_n 0, 1) := by decide +kernel
theorem dX11_groundTime_1 : decode cX11_groundTime 1 = .ok (.lload_n 1, 1) := by decide +kernel
theorem dX11_groundTime_2 : decode cX11_groundTime 2 = .ok (.ldc2_w 176, 3) := by decide +kernel
theorem dX11_groundTime_5 : decode cX11_groundTime 5 = .ok (.ldc2_w 178, 3) := by decide +kernel
theorem dX11_groundTime_8 : decode cX11_groundTime 8 = .ok (.invokestatic 23, 3) := by decide +kernel
theorem dX11_groundTime_11 : decode cX11_groundTime 11 = .ok (.ifCond .ne 7, 3) := by decide +kernel
theorem dX11_groundTime_14 : decode cX11_groundTime 14 = .ok (.iconst 1, 1) := by decide +kernel
theorem dX11_groundTime_15 : decode cX11_groundTime 15 = .ok (.goto 39, 3) := by decide +kernel
theorem dX11_groundTime_18 : decode cX11_groundTime 18 = .ok (.aload_n 0, 1) := by decide +kernel
theorem dX11_groundTime_19 : decode cX11_groundTime 19 = .ok (.getfield 7, 3) := by decide +kernel
theorem dX11_groundTime_22 : decode cX11_groundTime 22 = .ok (.sipush 12304, 3) := by decide +kernel
theorem dX11_groundTime_25 : decode cX11_groundTime 25 = .ok (.iaload, 1) := by decide +kernel
theorem dX11_groundTime_26 : decode cX11_groundTime 26 = .ok (.iconst 2, 1) := by decide +kernel
theorem dX11_groundTime_27 : decode cX11_groundTime 27 = .ok (.if_icmp .lt 22, 3) := by decide +kernel
theorem dX11_groundTime_30 : decode cX11_groundTime 30 = .ok (.aload_n 0, 1) := by decide +kernel
theorem dX11_groundTime_31 : decode cX11_groundTime 31 = .ok (.getfield 7, 3) := by decide +kernel
theorem dX11_groundTime_34 : decode cX11_groundTime 34 = .ok (.sipush 12305, 3) := by decide +kernel
theorem dX11_groundTime_37 : decode cX11_groundTime 37 = .ok (.iaload, 1) := by decide +kernel
theorem dX11_groundTime_38 : decode cX11_groundTime 38 = .ok (.aload_n 0, 1) := by decide +kernel
theorem dX11_groundTime_39 : decode cX11_groundTime 39 = .ok (.getfield 7, 3) := by decide +kernel
theorem dX11_groundTime_42 : decode cX11_groundTime 42 = .ok (.sipush 12307, 3) := by decide +kernel
theorem dX11_groundTime_45 : decode cX11_groundTime 45 = .ok (.iaload, 1) := by decide +kernel
theorem dX11_groundTime_46 : decode cX11_groundTime 46 = .ok (.if_icmp .ne 7, 3) := by decide +kernel
theorem dX11_groundTime_49 : decode cX11_groundTime 49 = .ok (.iconst 2, 1) := by decide +kernel
theorem dX11_groundTime_50 : decode cX11_groundTime 50 = .ok (.goto 4, 3) := by decide +kernel
theorem dX11_groundTime_53 : decode cX11_groundTime 53 = .ok (.iconst 0, 1) := by decide +kernel
theorem dX11_groundTime_54 : decode cX11_groundTime 54 = .ok (.invokevirtual 30, 3) := by decide +kernel
theorem dX11_groundTime_57 : decode cX11_groundTime 57 = .ok (.ifCond .eq 5, 3) := by decide +kernel
theorem dX11_groundTime_60 : decode cX11_groundTime 60 = .ok (.lconst 0, 1) := by decide +kernel
theorem dX11_groundTime_61 : decode cX11_groundTime 61 = .ok (.lreturn, 1) := by decide +kernel
theorem dX11_groundTime_62 : decode cX11_groundTime 62 = .ok (.lload_n 1, 1) := by decide +kernel
theorem dX11_groundTime_63 : decode cX11_groundTime 63 = .ok (.aload_n 0, 1) := by decide +kernel
theorem dX11_groundTime_64 : decode cX11_groundTime 64 = .ok (.getfield 7, 3) := by decide +kernel
theorem dX11_groundTime_67 : decode cX11_groundTime 67 = .ok (.sipush 12307, 3) := by decide +kernel
theorem dX11_groundTime_70 : decode cX11_groundTime 70 = .ok (.iaload, 1) := by decide +kernel
theorem dX11_groundTime_71 : decode cX11_groundTime 71 = .ok (.i2l, 1) := by decide +kernel
theorem dX11_groundTime_72 : decode cX11_groundTime 72 = .ok (.lsub, 1) := by decide +kernel
theorem dX11_groundTime_73 : decode cX11_groundTime 73 = .ok (.aload_n 0, 1) := by decide +kernel
theorem dX11_groundTime_74 : decode cX11_groundTime 74 = .ok (.getfield 7, 3) := by decide +kernel
theorem dX11_groundTime_77 : decode cX11_groundTime 77 = .ok (.sipush 12308, 3) := by decide +kernel
theorem dX11_groundTime_80 : decode cX11_groundTime 80 = .ok (.iaload, 1) := by decide +kernel
theorem dX11_groundTime_81 : decode cX11_groundTime 81 = .ok (.aload_n 0, 1) := by decide +kernel
theorem dX11_groundTime_82 : decode cX11_groundTime 82 = .ok (.getfield 7, 3) := by decide +kernel
theorem dX11_groundTime_85 : decode cX11_groundTime 85 = .ok (.sipush 12306, 3) := by decide +kernel
theorem dX11_groundTime_88 : decode cX11_groundTime 88 = .ok (.iaload, 1) := by decide +kernel
theorem dX11_groundTime_89 : decode cX11_groundTime 89 = .ok (.isub, 1) := by decide +kernel
theorem dX11_groundTime_90 : decode cX11_groundTime 90 = .ok (.i2l, 1) := by decide +kernel
theorem dX11_groundTime_91 : decode cX11_groundTime 91 = .ok (.lmul, 1) := by decide +kernel
theorem dX11_groundTime_92 : decode cX11_groundTime 92 = .ok (.lstore_n 3, 1) := by decide +kernel
theorem dX11_groundTime_93 : decode cX11_groundTime 93 = .ok (.aload_n 0, 1) := by decide +kernel
theorem dX11_groundTime_94 : decode cX11_groundTime 94 = .ok (.getfield 7, 3) := by decide +kernel
theorem dX11_groundTime_97 : decode cX11_groundTime 97 = .ok (.sipush 12308, 3) := by decide +kernel
theorem dX11_groundTime_100 : decode cX11_groundTime 100 = .ok (.iaload, 1) := by decide +kernel
theorem dX11_groundTime_101 : decode cX11_groundTime 101 = .ok (.i2l, 1) := by decide +kernel
theorem dX11_groundTime_102 : decode cX11_groundTime 102 = .ok (.lload_n 3, 1) := by decide +kernel
theorem dX11_groundTime_103 : decode cX11_groundTime 103 = .ok (.aload_n 0, 1) := by decide +kernel
theorem dX11_groundTime_104 : decode cX11_groundTime 104 = .ok (.getfield 7, 3) := by decide +kernel
theorem dX11_groundTime_107 : decode cX11_groundTime 107 = .ok (.sipush 12307, 3) := by decide +kernel
theorem dX11_groundTime_110 : decode cX11_groundTime 110 = .ok (.iaload, 1) := by decide +kernel
theorem dX11_groundTime_111 : decode cX11_groundTime 111 = .ok (.aload_n 0, 1) := by decide +kernel
theorem dX11_groundTime_112 : decode cX11_groundTime 112 = .ok (.getfield 7, 3) := by decide +kernel
theorem dX11_groundTime_115 : decode cX11_groundTime 115 = .ok (.sipush 12305, 3) := by decide +kernel
theorem dX11_groundTime_118 : decode cX11_groundTime 118 = .ok (.iaload, 1) := by decide +kernel
theorem dX11_groundTime_119 : decode cX11_groundTime 119 = .ok (.isub, 1) := by decide +kernel
theorem dX11_groundTime_120 : decode cX11_groundTime 120 = .ok (.i2l, 1) := by decide +kernel
theorem dX11_groundTime_121 : decode cX11_groundTime 121 = .ok (.invokestatic 110, 3) := by decide +kernel
theorem dX11_groundTime_124 : decode cX11_groundTime 124 = .ok (.ladd, 1) := by decide +kernel
theorem dX11_groundTime_125 : decode cX11_groundTime 125 = .ok (.lreturn, 1) := by decide +kernel
theorem dX11_mix_0 : decode cX11_mix 0 = .ok (.aload_n 0, 1) := by decide +kernel
theorem dX11_mix_1 : decode cX11_mix 1 = .ok (.ldc2_w 180, 3) := by decide +kernel
theorem dX11_mix_4 : decode cX11_mix 4 = .ok (.aload_n 0, 1) := by decide +kernel
theorem dX11_mix_5 : decode cX11_mix 5 = .ok (.getfield 182, 3) := by decide +kernel
theorem dX11_mix_8 : decode cX11_mix 8 = .ok (.lmul, 1) := by decide +kernel
theorem dX11_mix_9 : decode cX11_mix 9 = .ok (.lload_n 1, 1) := by decide +kernel
theorem dX11_mix_10 : decode cX11_mix 10 = .ok (.ladd, 1) := by decide +kernel
theorem dX11_mix_11 : decode cX11_mix 11 = .ok (.putfield 182, 3) := by decide +kernel
theorem dX11_mix_14 : decode cX11_mix 14 = .ok (.return_, 1) := by decide +kernel
theorem dX11_mixAll_0 : decode cX11_mixAll 0 = .ok (.iload_n 1, 1) := by decide +kernel
theorem dX11_mixAll_1 : decode cX11_mixAll 1 = .ok (.istore_n 3, 1) := by decide +kernel
theorem dX11_mixAll_2 : decode cX11_mixAll 2 = .ok (.iload_n 3, 1) := by decide +kernel
theorem dX11_mixAll_3 : decode cX11_mixAll 3 = .ok (.iload_n 1, 1) := by decide +kernel
theorem dX11_mixAll_4 : decode cX11_mixAll 4 = .ok (.iload_n 2, 1) := by decide +kernel
theorem dX11_mixAll_5 : decode cX11_mixAll 5 = .ok (.iadd, 1) := by decide +kernel
theorem dX11_mixAll_6 : decode cX11_mixAll 6 = .ok (.if_icmp .ge 20, 3) := by decide +kernel
theorem dX11_mixAll_9 : decode cX11_mixAll 9 = .ok (.aload_n 0, 1) := by decide +kernel
theorem dX11_mixAll_10 : decode cX11_mixAll 10 = .ok (.aload_n 0, 1) := by decide +kernel
theorem dX11_mixAll_11 : decode cX11_mixAll 11 = .ok (.getfield 7, 3) := by decide +kernel
theorem dX11_mixAll_14 : decode cX11_mixAll 14 = .ok (.iload_n 3, 1) := by decide +kernel
theorem dX11_mixAll_15 : decode cX11_mixAll 15 = .ok (.iaload, 1) := by decide +kernel
theorem dX11_mixAll_16 : decode cX11_mixAll 16 = .ok (.i2l, 1) := by decide +kernel
theorem dX11_mixAll_17 : decode cX11_mixAll 17 = .ok (.invokevirtual 186, 3) := by decide +kernel
theorem dX11_mixAll_20 : decode cX11_mixAll 20 = .ok (.iinc 3 1, 3) := by decide +kernel
theorem dX11_mixAll_23 : decode cX11_mixAll 23 = .ok (.goto (-21), 3) := by decide +kernel
theorem dX11_mixAll_26 : decode cX11_mixAll 26 = .ok (.return_, 1) := by decide +kernel
theorem dX11_mixChannel_0 : decode cX11_mixChannel 0 = .ok (.aload_n 0, 1) := by decide +kernel
theorem dX11_mixChannel_1 : decode cX11_mixChannel 1 = .ok (.aload_n 0, 1) := by decide +kernel
theorem dX11_mixChannel_2 : decode cX11_mixChannel 2 = .ok (.getfield 7, 3) := by decide +kernel
theorem dX11_mixChannel_5 : decode cX11_mixChannel 5 = .ok (.bipush 25, 2) := by decide +kernel
theorem dX11_mixChannel_7 : decode cX11_mixChannel 7 = .ok (.iload_n 1, 1) := by decide +kernel
theorem dX11_mixChannel_8 : decode cX11_mixChannel 8 = .ok (.iadd, 1) := by decide +kernel
theorem dX11_mixChannel_9 : decode cX11_mixChannel 9 = .ok (.iaload, 1) := by decide +kernel
theorem dX11_mixChannel_10 : decode cX11_mixChannel 10 = .ok (.i2l, 1) := by decide +kernel
theorem dX11_mixChannel_11 : decode cX11_mixChannel 11 = .ok (.invokevirtual 186, 3) := by decide +kernel
theorem dX11_mixChannel_14 : decode cX11_mixChannel 14 = .ok (.aload_n 0, 1) := by decide +kernel
theorem dX11_mixChannel_15 : decode cX11_mixChannel 15 = .ok (.aload_n 0, 1) := by decide +kernel
theorem dX11_mixChannel_16 : decode cX11_mixChannel 16 = .ok (.getfield 7, 3) := by decide +kernel
theorem dX11_mixChannel_19 : decode cX11_mixChannel 19 = .ok (.bipush 29, 2) := by decide +kernel
theorem dX11_mixChannel_21 : decode cX11_mixChannel 21 = .ok (.iload_n 1, 1) := by decide +kernel
theorem dX11_mixChannel_22 : decode cX11_mixChannel 22 = .ok (.iadd, 1) := by decide +kernel
theorem dX11_mixChannel_23 : decode cX11_mixChannel 23 = .ok (.iaload, 1) := by decide +kernel
theorem dX11_mixChannel_24 : decode cX11_mixChannel 24 = .ok (.i2l, 1) := by decide +kernel
theorem dX11_mixChannel_25 : decode cX11_mixChannel 25 = .ok (.invokevirtual 186, 3) := by decide +kernel
theorem dX11_mixChannel_28 : decode cX11_mixChannel 28 = .ok (.aload_n 0, 1) := by decide +kernel
theorem dX11_mixChannel_29 : decode cX11_mixChannel 29 = .ok (.aload_n 0, 1) := by decide +kernel
theorem dX11_mixChannel_30 : decode cX11_mixChannel 30 = .ok (.getfield 7, 3) := by decide +kernel
theorem dX11_mixChannel_33 : decode cX11_mixChannel 33 = .ok (.bipush 33, 2) := by decide +kernel
theorem dX11_mixChannel_35 : decode cX11_mixChannel 35 = .ok (.iload_n 1, 1) := by decide +kernel
theorem dX11_mixChannel_36 : decode cX11_mixChannel 36 = .ok (.iadd, 1) := by decide +kernel
theorem dX11_mixChannel_37 : decode cX11_mixChannel 37 = .ok (.iaload, 1) := by decide +kernel
theorem dX11_mixChannel_38 : decode cX11_mixChannel 38 = .ok (.i2l, 1) := by decide +kernel
theorem dX11_mixChannel_39 : decode cX11_mixChannel 39 = .ok (.invokevirtual 186, 3) := by decide +kernel
theorem dX11_mixChannel_42 : decode cX11_mixChannel 42 = .ok (.iconst 0, 1) := by decide +kernel
theorem dX11_mixChannel_43 : decode cX11_mixChannel 43 = .ok (.istore_n 2, 1) := by decide +kernel
theorem dX11_mixChannel_44 : decode cX11_mixChannel 44 = .ok (.iload_n 2, 1) := by decide +kernel
theorem dX11_mixChannel_45 : decode cX11_mixChannel 45 = .ok (.iconst 3, 1) := by decide +kernel
theorem dX11_mixChannel_46 : decode cX11_mixChannel 46 = .ok (.if_icmp .ge 20, 3) := by decide +kernel
theorem dX11_mixChannel_49 : decode cX11_mixChannel 49 = .ok (.aload_n 0, 1) := by decide +kernel
theorem dX11_mixChannel_50 : decode cX11_mixChannel 50 = .ok (.aload_n 0, 1) := by decide +kernel
theorem dX11_mixChannel_51 : decode cX11_mixChannel 51 = .ok (.iload_n 1, 1) := by decide +kernel
theorem dX11_mixChannel_52 : decode cX11_mixChannel 52 = .ok (.iload_n 2, 1) := by decide +kernel
theorem dX11_mixChannel_53 : decode cX11_mixChannel 53 = .ok (.invokevirtual 78, 3) := by decide +kernel
theorem dX11_mixChannel_56 : decode cX11_mixChannel 56 = .ok (.i2l, 1) := by decide +kernel
theorem dX11_mixChannel_57 : decode cX11_mixChannel 57 = .ok (.invokevirtual 186, 3) := by decide +kernel
theorem dX11_mixChannel_60 : decode cX11_mixChannel 60 = .ok (.iinc 2 1, 3) := by decide +kernel
theorem dX11_mixChannel_63 : decode cX11_mixChannel 63 = .ok (.goto (-19), 3) := by decide +kernel
theorem dX11_mixChannel_66 : decode cX11_mixChannel 66 = .ok (.iconst 0, 1) := by decide +kernel
theorem dX11_mixChannel_67 : decode cX11_mixChannel 67 = .ok (.istore_n 2, 1) := by decide +kernel
theorem dX11_mixChannel_68 : decode cX11_mixChannel 68 = .ok (.iload_n 2, 1) := by decide +kernel
theorem dX11_mixChannel_69 : decode cX11_mixChannel 69 = .ok (.iconst 3, 1) := by decide +kernel
theorem dX11_mixChannel_70 : decode cX11_mixChannel 70 = .ok (.if_icmp .ge 20, 3) := by decide +kernel
theorem dX11_mixChannel_73 : decode cX11_mixChannel 73 = .ok (.aload_n 0, 1) := by decide +kernel
theorem dX11_mixChannel_74 : decode cX11_mixChannel 74 = .ok (.aload_n 0, 1) := by decide +kernel
theorem dX11_mixChannel_75 : decode cX11_mixChannel 75 = .ok (.iload_n 1, 1) := by decide +kernel
theorem dX11_mixChannel_76 : decode cX11_mixChannel 76 = .ok (.iload_n 2, 1) := by decide +kernel
theorem dX11_mixChannel_77 : decode cX11_mixChannel 77 = .ok (.invokevirtual 131, 3) := by decide +kernel
theorem dX11_mixChannel_80 : decode cX11_mixChannel 80 = .ok (.i2l, 1) := by decide +kernel
theorem dX11_mixChannel_81 : decode cX11_mixChannel 81 = .ok (.invokevirtual 186, 3) := by decide +kernel
theorem dX11_mixChannel_84 : decode cX11_mixChannel 84 = .ok (.iinc 2 1, 3) := by decide +kernel
theorem dX11_mixChannel_87 : decode cX11_mixChannel 87 = .ok (.goto (-19), 3) := by decide +kernel
theorem dX11_mixChannel_90 : decode cX11_mixChannel 90 = .ok (.iconst 0, 1) := by decide +kernel
theorem dX11_mixChannel_91 : decode cX11_mixChannel 91 = .ok (.istore_n 2, 1) := by decide +kernel
theorem dX11_mixChannel_92 : decode cX11_mixChannel 92 = .ok (.iload_n 2, 1) := by decide +kernel
theorem dX11_mixChannel_93 : decode cX11_mixChannel 93 = .ok (.iconst 4, 1) := by decide +kernel
theorem dX11_mixChannel_94 : decode cX11_mixChannel 94 = .ok (.if_icmp .ge 20, 3) := by decide +kernel
theorem dX11_mixChannel_97 : decode cX11_mixChannel 97 = .ok (.aload_n 0, 1) := by decide +kernel
theorem dX11_mixChannel_98 : decode cX11_mixChannel 98 = .ok (.aload_n 0, 1) := by decide +kernel
theorem dX11_mixChannel_99 : decode cX11_mixChannel 99 = .ok (.iload_n 1, 1) := by decide +kernel
theorem dX11_mixChannel_100 : decode cX11_mixChannel 100 = .ok (.iload_n 2, 1) := by decide +kernel
theorem dX11_mixChannel_101 : decode cX11_mixChannel 101 = .ok (.invokevirtual 168, 3) := by decide +kernel
theorem dX11_mixChannel_104 : decode cX11_mixChannel 104 = .ok (.i2l, 1) := by decide +kernel
theorem dX11_mixChannel_105 : decode cX11_mixChannel 105 = .ok (.invokevirtual 186, 3) := by decide +kernel
theorem dX11_mixChannel_108 : decode cX11_mixChannel 108 = .ok (.iinc 2 1, 3) := by decide +kernel
theorem dX11_mixChannel_111 : decode cX11_mixChannel 111 = .ok (.goto (-19), 3) := by decide +kernel
theorem dX11_mixChannel_114 : decode cX11_mixChannel 114 = .ok (.return_, 1) := by decide +kernel
theorem dX11_digest_0 : decode cX11_digest 0 = .ok (.aload_n 0, 1) := by decide +kernel
theorem dX11_digest_1 : decode cX11_digest 1 = .ok (.iconst 0, 1) := by decide +kernel
theorem dX11_digest_2 : decode cX11_digest 2 = .ok (.putfield 17, 3) := by decide +kernel
theorem dX11_digest_5 : decode cX11_digest 5 = .ok (.aload_n 0, 1) := by decide +kernel
theorem dX11_digest_6 : decode cX11_digest 6 = .ok (.ldc2_w 190, 3) := by decide +kernel
theorem dX11_digest_9 : decode cX11_digest 9 = .ok (.putfield 182, 3) := by decide +kernel
theorem dX11_digest_12 : decode cX11_digest 12 = .ok (.aload_n 0, 1) := by decide +kernel
theorem dX11_digest_13 : decode cX11_digest 13 = .ok (.aload_n 0, 1) := by decide +kernel
theorem dX11_digest_14 : decode cX11_digest 14 = .ok (.getfield 27, 3) := by decide +kernel
theorem dX11_digest_17 : decode cX11_digest 17 = .ok (.i2l, 1) := by decide +kernel
theorem dX11_digest_18 : decode cX11_digest 18 = .ok (.invokevirtual 186, 3) := by decide +kernel
theorem dX11_digest_21 : decode cX11_digest 21 = .ok (.aload_n 0, 1) := by decide +kernel
theorem dX11_digest_22 : decode cX11_digest 22 = .ok (.iconst 0, 1) := by decide +kernel
theorem dX11_digest_23 : decode cX11_digest 23 = .ok (.iconst 4, 1) := by decide +kernel
theorem dX11_digest_24 : decode cX11_digest 24 = .ok (.invokevirtual 192, 3) := by decide +kernel
theorem dX11_digest_27 : decode cX11_digest 27 = .ok (.aload_n 0, 1) := by decide +kernel
theorem dX11_digest_28 : decode cX11_digest 28 = .ok (.aload_n 0, 1) := by decide +kernel
theorem dX11_digest_29 : decode cX11_digest 29 = .ok (.invokevirtual 95, 3) := by decide +kernel
theorem dX11_digest_32 : decode cX11_digest 32 = .ok (.i2l, 1) := by decide +kernel
theorem dX11_digest_33 : decode cX11_digest 33 = .ok (.invokevirtual 186, 3) := by decide +kernel
theorem dX11_digest_36 : decode cX11_digest 36 = .ok (.aload_n 0, 1) := by decide +kernel
theorem dX11_digest_37 : decode cX11_digest 37 = .ok (.aload_n 0, 1) := by decide +kernel
theorem dX11_digest_38 : decode cX11_digest 38 = .ok (.invokevirtual 114, 3) := by decide +kernel
theorem dX11_digest_41 : decode cX11_digest 41 = .ok (.invokevirtual 186, 3) := by decide +kernel
theorem dX11_digest_44 : decode cX11_digest 44 = .ok (.iconst 0, 1) := by decide +kernel
theorem dX11_digest_45 : decode cX11_digest 45 = .ok (.istore_n 1, 1) := by decide +kernel
theorem dX11_digest_46 : decode cX11_digest 46 = .ok (.iload_n 1, 1) := by decide +kernel
theorem dX11_digest_47 : decode cX11_digest 47 = .ok (.iconst 4, 1) := by decide +kernel
theorem dX11_digest_48 : decode cX11_digest 48 = .ok (.if_icmp .ge 14, 3) := by decide +kernel
theorem dX11_digest_51 : decode cX11_digest 51 = .ok (.aload_n 0, 1) := by decide +kernel
theorem dX11_digest_52 : decode cX11_digest 52 = .ok (.iload_n 1, 1) := by decide +kernel
theorem dX11_digest_53 : decode cX11_digest 53 = .ok (.invokevirtual 195, 3) := by decide +kernel
theorem dX11_digest_56 : decode cX11_digest 56 = .ok (.iinc 1 1, 3) := by decide +kernel
theorem dX11_digest_59 : decode cX11_digest 59 = .ok (.goto (-13), 3) := by decide +kernel
theorem dX11_digest_62 : decode cX11_digest 62 = .ok (.aload_n 0, 1) := by decide +kernel
theorem dX11_digest_63 : decode cX11_digest 63 = .ok (.aload_n 0, 1) := by decide +kernel
theorem dX11_digest_64 : decode cX11_digest 64 = .ok (.getfield 7, 3) := by decide +kernel
theorem dX11_digest_67 : decode cX11_digest 67 = .ok (.bipush 45, 2) := by decide +kernel
theorem dX11_digest_69 : decode cX11_digest 69 = .ok (.iaload, 1) := by decide +kernel
theorem dX11_digest_70 : decode cX11_digest 70 = .ok (.i2l, 1) := by decide +kernel
theorem dX11_digest_71 : decode cX11_digest 71 = .ok (.invokevirtual 186, 3) := by decide +kernel
theorem dX11_digest_74 : decode cX11_digest 74 = .ok (.aload_n 0, 1) := by decide +kernel
theorem dX11_digest_75 : decode cX11_digest 75 = .ok (.aload_n 0, 1) := by decide +kernel
theorem dX11_digest_76 : decode cX11_digest 76 = .ok (.getfield 7, 3) := by decide +kernel
theorem dX11_digest_79 : decode cX11_digest 79 = .ok (.sipush 382, 3) := by decide +kernel
theorem dX11_digest_82 : decode cX11_digest 82 = .ok (.iaload, 1) := by decide +kernel
theorem dX11_digest_83 : decode cX11_digest 83 = .ok (.i2l, 1) := by decide +kernel
theorem dX11_digest_84 : decode cX11_digest 84 = .ok (.invokevirtual 186, 3) := by decide +kernel
theorem dX11_digest_87 : decode cX11_digest 87 = .ok (.iconst 0, 1) := by decide +kernel
theorem dX11_digest_88 : decode cX11_digest 88 = .ok (.istore_n 1, 1) := by decide +kernel
theorem dX11_digest_89 : decode cX11_digest 89 = .ok (.iload_n 1, 1) := by decide +kernel
theorem dX11_digest_90 : decode cX11_digest 90 = .ok (.aload_n 0, 1) := by decide +kernel
theorem dX11_digest_91 : decode cX11_digest 91 = .ok (.getfield 7, 3) := by decide +kernel
theorem dX11_digest_94 : decode cX11_digest 94 = .ok (.sipush 382, 3) := by decide +kernel
theorem dX11_digest_97 : decode cX11_digest 97 = .ok (.iaload, 1) := by decide +kernel
theorem dX11_digest_98 : decode cX11_digest 98 = .ok (.if_icmp .ge 55, 3) := by decide +kernel
theorem dX11_digest_101 : decode cX11_digest 101 = .ok (.aload_n 0, 1) := by decide +kernel
theorem dX11_digest_102 : decode cX11_digest 102 = .ok (.aload_n 0, 1) := by decide +kernel
theorem dX11_digest_103 : decode cX11_digest 103 = .ok (.getfield 7, 3) := by decide +kernel
theorem dX11_digest_106 : decode cX11_digest 106 = .ok (.aload_n 0, 1) := by decide +kernel
theorem dX11_digest_107 : decode cX11_digest 107 = .ok (.iload_n 1, 1) := by decide +kernel
theorem dX11_digest_108 : decode cX11_digest 108 = .ok (.invokevirtual 100, 3) := by decide +kernel
theorem dX11_digest_111 : decode cX11_digest 111 = .ok (.iconst 1, 1) := by decide +kernel
theorem dX11_digest_112 : decode cX11_digest 112 = .ok (.iadd, 1) := by decide +kernel
theorem dX11_digest_113 : decode cX11_digest 113 = .ok (.iaload, 1) := by decide +kernel
theorem dX11_digest_114 : decode cX11_digest 114 = .ok (.i2l, 1) := by decide +kernel
theorem dX11_digest_115 : decode cX11_digest 115 = .ok (.invokevirtual 186, 3) := by decide +kernel
theorem dX11_digest_118 : decode cX11_digest 118 = .ok (.aload_n 0, 1) := by decide +kernel
theorem dX11_digest_119 : decode cX11_digest 119 = .ok (.aload_n 0, 1) := by decide +kernel
theorem dX11_digest_120 : decode cX11_digest 120 = .ok (.getfield 7, 3) := by decide +kernel
theorem dX11_digest_123 : decode cX11_digest 123 = .ok (.aload_n 0, 1) := by decide +kernel
theorem dX11_digest_124 : decode cX11_digest 124 = .ok (.iload_n 1, 1) := by decide +kernel
theorem dX11_digest_125 : decode cX11_digest 125 = .ok (.invokevirtual 100, 3) := by decide +kernel
theorem dX11_digest_128 : decode cX11_digest 128 = .ok (.iconst 4, 1) := by decide +kernel
theorem dX11_digest_129 : decode cX11_digest 129 = .ok (.iadd, 1) := by decide +kernel
theorem dX11_digest_130 : decode cX11_digest 130 = .ok (.iconst 3, 1) := by decide +kernel
theorem dX11_digest_131 : decode cX11_digest 131 = .ok (.iadd, 1) := by decide +kernel
theorem dX11_digest_132 : decode cX11_digest 132 = .ok (.iaload, 1) := by decide +kernel
theorem dX11_digest_133 : decode cX11_digest 133 = .ok (.i2l, 1) := by decide +kernel
theorem dX11_digest_134 : decode cX11_digest 134 = .ok (.invokevirtual 186, 3) := by decide +kernel
theorem dX11_digest_137 : decode cX11_digest 137 = .ok (.aload_n 0, 1) := by decide +kernel
theorem dX11_digest_138 : decode cX11_digest 138 = .ok (.aload_n 0, 1) := by decide +kernel
theorem dX11_digest_139 : decode cX11_digest 139 = .ok (.iload_n 1, 1) := by decide +kernel
theorem dX11_digest_140 : decode cX11_digest 140 = .ok (.invokevirtual 141, 3) := by decide +kernel
theorem dX11_digest_143 : decode cX11_digest 143 = .ok (.i2l, 1) := by decide +kernel
theorem dX11_digest_144 : decode cX11_digest 144 = .ok (.invokevirtual 186, 3) := by decide +kernel
theorem dX11_digest_147 : decode cX11_digest 147 = .ok (.iinc 1 1, 3) := by decide +kernel
theorem dX11_digest_150 : decode cX11_digest 150 = .ok (.goto (-61), 3) := by decide +kernel
theorem dX11_digest_153 : decode cX11_digest 153 = .ok (.aload_n 0, 1) := by decide +kernel
theorem dX11_digest_154 : decode cX11_digest 154 = .ok (.sipush 3383, 3) := by decide +kernel
theorem dX11_digest_157 : decode cX11_digest 157 = .ok (.bipush 6, 2) := by decide +kernel
theorem dX11_digest_159 : decode cX11_digest 159 = .ok (.invokevirtual 192, 3) := by decide +kernel
theorem dX11_digest_162 : decode cX11_digest 162 = .ok (.iconst 0, 1) := by decide +kernel
theorem dX11_digest_163 : decode cX11_digest 163 = .ok (.istore_n 1, 1) := by decide +kernel
theorem dX11_digest_164 : decode cX11_digest 164 = .ok (.iload_n 1, 1) := by decide +kernel
theorem dX11_digest_165 : decode cX11_digest 165 = .ok (.bipush 15, 2) := by decide +kernel
theorem dX11_digest_167 : decode cX11_digest 167 = .ok (.if_icmp .ge 21, 3) := by decide +kernel
theorem dX11_digest_170 : decode cX11_digest 170 = .ok (.aload_n 0, 1) := by decide +kernel
theorem dX11_digest_171 : decode cX11_digest 171 = .ok (.sipush 4443, 3) := by decide +kernel
theorem dX11_digest_174 : decode cX11_digest 174 = .ok (.iconst 4, 1) := by decide +kernel
theorem dX11_digest_175 : decode cX11_digest 175 = .ok (.iload_n 1, 1) := by decide +kernel
theorem dX11_digest_176 : decode cX11_digest 176 = .ok (.imul, 1) := by decide +kernel
theorem dX11_digest_177 : decode cX11_digest 177 = .ok (.iadd, 1) := by decide +kernel
theorem dX11_digest_178 : decode cX11_digest 178 = .ok (.iconst 3, 1) := by decide +kernel
theorem dX11_digest_179 : decode cX11_digest 179 = .ok (.invokevirtual 192, 3) := by decide +kernel
theorem dX11_digest_182 : decode cX11_digest 182 = .ok (.iinc 1 1, 3) := by decide +kernel
theorem dX11_digest_185 : decode cX11_digest 185 = .ok (.goto (-21), 3) := by decide +kernel
theorem dX11_digest_188 : decode cX11_digest 188 = .ok (.aload_n 0, 1) := by decide +kernel
theorem dX11_digest_189 : decode cX11_digest 189 = .ok (.aload_n 0, 1) := by decide +kernel
theorem dX11_digest_190 : decode cX11_digest 190 = .ok (.getfield 7, 3) := by decide +kernel
theorem dX11_digest_193 : decode cX11_digest 193 = .ok (.sipush 4503, 3) := by decide +kernel
theorem dX11_digest_196 : decode cX11_digest 196 = .ok (.iaload, 1) := by decide +kernel
theorem dX11_digest_197 : decode cX11_digest 197 = .ok (.i2l, 1) := by decide +kernel
theorem dX11_digest_198 : decode cX11_digest 198 = .ok (.invokevirtual 186, 3) := by decide +kernel
theorem dX11_digest_201 : decode cX11_digest 201 = .ok (.iconst 0, 1) := by decide +kernel
theorem dX11_digest_202 : decode cX11_digest 202 = .ok (.istore_n 1, 1) := by decide +kernel
theorem dX11_digest_203 : decode cX11_digest 203 = .ok (.iload_n 1, 1) := by decide +kernel
theorem dX11_digest_204 : decode cX11_digest 204 = .ok (.aload_n 0, 1) := by decide +kernel
theorem dX11_digest_205 : decode cX11_digest 205 = .ok (.getfield 7, 3) := by decide +kernel
theorem dX11_digest_208 : decode cX11_digest 208 = .ok (.sipush 4503, 3) := by decide +kernel
theorem dX11_digest_211 : decode cX11_digest 211 = .ok (.iaload, 1) := by decide +kernel
theorem dX11_digest_212 : decode cX11_digest 212 = .ok (.if_icmp .ge 23, 3) := by decide +kernel
theorem dX11_digest_215 : decode cX11_digest 215 = .ok (.aload_n 0, 1) := by decide +kernel
theorem dX11_digest_216 : decode cX11_digest 216 = .ok (.sipush 4504, 3) := by decide +kernel
theorem dX11_digest_219 : decode cX11_digest 219 = .ok (.sipush 260, 3) := by decide +kernel
theorem dX11_digest_222 : decode cX11_digest 222 = .ok (.iload_n 1, 1) := by decide +kernel
theorem dX11_digest_223 : decode cX11_digest 223 = .ok (.imul, 1) := by decide +kernel
theorem dX11_digest_224 : decode cX11_digest 224 = .ok (.iadd, 1) := by decide +kernel
theorem dX11_digest_225 : decode cX11_digest 225 = .ok (.iconst 5, 1) := by decide +kernel
theorem dX11_digest_226 : decode cX11_digest 226 = .ok (.invokevirtual 192, 3) := by decide +kernel
theorem dX11_digest_229 : decode cX11_digest 229 = .ok (.iinc 1 1, 3) := by decide +kernel
theorem dX11_digest_232 : decode cX11_digest 232 = .ok (.goto (-29), 3) := by decide +kernel
theorem dX11_digest_235 : decode cX11_digest 235 = .ok (.aload_n 0, 1) := by decide +kernel
theorem dX11_digest_236 : decode cX11_digest 236 = .ok (.sipush 12304, 3) := by decide +kernel
theorem dX11_digest_239 : decode cX11_digest 239 = .ok (.iconst 1, 1) := by decide +kernel
theorem dX11_digest_240 : decode cX11_digest 240 = .ok (.iconst 2, 1) := by decide +kernel
theorem dX11_digest_241 : decode cX11_digest 241 = .ok (.aload_n 0, 1) := by decide +kernel
theorem dX11_digest_242 : decode cX11_digest 242 = .ok (.getfield 7, 3) := by decide +kernel
theorem dX11_digest_245 : decode cX11_digest 245 = .ok (.sipush 12304, 3) := by decide +kernel
theorem dX11_digest_248 : decode cX11_digest 248 = .ok (.iaload, 1) := by decide +kernel
theorem dX11_digest_249 : decode cX11_digest 249 = .ok (.imul, 1) := by decide +kernel
theorem dX11_digest_250 : decode cX11_digest 250 = .ok (.iadd, 1) := by decide +kernel
theorem dX11_digest_251 : decode cX11_digest 251 = .ok (.invokevirtual 192, 3) := by decide +kernel
theorem dX11_digest_254 : decode cX11_digest 254 = .ok (.aload_n 0, 1) := by decide +kernel
theorem dX11_digest_255 : decode cX11_digest 255 = .ok (.getfield 182, 3) := by decide +kernel
theorem dX11_digest_258 : decode cX11_digest 258 = .ok (.lreturn, 1) := by decide +kernel

theorem dX12_isWindow_1 : decode cX12_isWindow 1 = .ok (.i2l, 1) := by decide +kernel
theorem dX12_isWindow_2 : decode cX12_isWindow 2 = .ok (.lconst 0, 1) := by decide +kernel
theorem dX12_isWindow_3 : decode cX12_isWindow 3 = .ok (.ldc2_w 41, 3) := by decide +kernel
theorem dX12_isWindow_6 : decode cX12_isWindow 6 = .ok (.invokestatic 15, 3) := by decide +kernel
theorem dX12_isWindow_9 : decode cX12_isWindow 9 = .ok (.ireturn, 1) := by decide +kernel
theorem dX12_part_0 : decode cX12_part 0 = .ok (.aload_n 0, 1) := by decide +kernel
theorem dX12_part_1 : decode cX12_part 1 = .ok (.getfield 89, 3) := by decide +kernel
theorem dX12_part_4 : decode cX12_part 4 = .ok (.iconst 5, 1) := by decide +kernel
theorem dX12_part_5 : decode cX12_part 5 = .ok (.iload_n 1, 1) := by decide +kernel
theorem dX12_part_6 : decode cX12_part 6 = .ok (.imul, 1) := by decide +kernel
theorem dX12_part_7 : decode cX12_part 7 = .ok (.iload_n 2, 1) := by decide +kernel
theorem dX12_part_8 : decode cX12_part 8 = .ok (.iadd, 1) := by decide +kernel
theorem dX12_part_9 : decode cX12_part 9 = .ok (.iaload, 1) := by decide +kernel
theorem dX12_part_10 : decode cX12_part 10 = .ok (.ireturn, 1) := by decide +kernel
theorem dX12_window_0 : decode cX12_window 0 = .ok (.iload_n 1, 1) := by decide +kernel
theorem dX12_window_1 : decode cX12_window 1 = .ok (.invokestatic 269, 3) := by decide +kernel
theorem dX12_window_4 : decode cX12_window 4 = .ok (.ifCond .eq 10, 3) := by decide +kernel
theorem dX12_window_7 : decode cX12_window 7 = .ok (.iload_n 2, 1) := by decide +kernel
theorem dX12_window_8 : decode cX12_window 8 = .ok (.invokestatic 190, 3) := by decide +kernel
theorem dX12_window_11 : decode cX12_window 11 = .ok (.ifCond .ne 5, 3) := by decide +kernel
theorem dX12_window_14 : decode cX12_window 14 = .ok (.iconst (-1), 1) := by decide +kernel
theorem dX12_window_15 : decode cX12_window 15 = .ok (.ireturn, 1) := by decide +kernel
theorem dX12_window_16 : decode cX12_window 16 = .ok (.iload_n 3, 1) := by decide +kernel
theorem dX12_window_17 : decode cX12_window 17 = .ok (.i2l, 1) := by decide +kernel
theorem dX12_window_18 : decode cX12_window 18 = .ok (.ldc2_w 272, 3) := by decide +kernel
theorem dX12_window_21 : decode cX12_window 21 = .ok (.ldc2_w 274, 3) := by decide +kernel
theorem dX12_window_24 : decode cX12_window 24 = .ok (.invokestatic 15, 3) := by decide +kernel
theorem dX12_window_27 : decode cX12_window 27 = .ok (.ifCond .eq 44, 3) := by decide +kernel
theorem dX12_window_30 : decode cX12_window 30 = .ok (.iload 4, 2) := by decide +kernel
theorem dX12_window_32 : decode cX12_window 32 = .ok (.i2l, 1) := by decide +kernel
theorem dX12_window_33 : decode cX12_window 33 = .ok (.ldc2_w 276, 3) := by decide +kernel
theorem dX12_window_36 : decode cX12_window 36 = .ok (.ldc2_w 37, 3) := by decide +kernel
theorem dX12_window_39 : decode cX12_window 39 = .ok (.invokestatic 15, 3) := by decide +kernel
theorem dX12_window_42 : decode cX12_window 42 = .ok (.ifCond .eq 29, 3) := by decide +kernel
theorem dX12_window_45 : decode cX12_window 45 = .ok (.iload 5, 2) := by decide +kernel
theorem dX12_window_47 : decode cX12_window 47 = .ok (.i2l, 1) := by decide +kernel
theorem dX12_window_48 : decode cX12_window 48 = .ok (.lconst 0, 1) := by decide +kernel
theorem dX12_window_49 : decode cX12_window 49 = .ok (.ldc2_w 278, 3) := by decide +kernel
theorem dX12_window_52 : decode cX12_window 52 = .ok (.invokestatic 15, 3) := by decide +kernel
theorem dX12_window_55 : decode cX12_window 55 = .ok (.ifCond .eq 16, 3) := by decide +kernel
theorem dX12_window_58 : decode cX12_window 58 = .ok (.iload 6, 2) := by decide +kernel
theorem dX12_window_60 : decode cX12_window 60 = .ok (.i2l, 1) := by decide +kernel
theorem dX12_window_61 : decode cX12_window 61 = .ok (.lconst 0, 1) := by decide +kernel
theorem dX12_window_62 : decode cX12_window 62 = .ok (.ldc2_w 234, 3) := by decide +kernel
theorem dX12_window_65 : decode cX12_window 65 = .ok (.invokestatic 15, 3) := by decide +kernel
theorem dX12_window_68 : decode cX12_window 68 = .ok (.ifCond .ne 6, 3) := by decide +kernel
theorem dX12_window_71 : decode cX12_window 71 = .ok (.bipush (-2), 2) := by decide +kernel
theorem dX12_window_73 : decode cX12_window 73 = .ok (.ireturn, 1) := by decide +kernel
theorem dX12_window_74 : decode cX12_window 74 = .ok (.aload_n 0, 1) := by decide +kernel
theorem dX12_window_75 : decode cX12_window 75 = .ok (.getfield 89, 3) := by decide +kernel
theorem dX12_window_78 : decode cX12_window 78 = .ok (.iconst 5, 1) := by decide +kernel
theorem dX12_window_79 : decode cX12_window 79 = .ok (.iload_n 1, 1) := by decide +kernel
theorem dX12_window_80 : decode cX12_window 80 = .ok (.imul, 1) := by decide +kernel
theorem dX12_window_81 : decode cX12_window 81 = .ok (.iload_n 2, 1) := by decide +kernel
theorem dX12_window_82 : decode cX12_window 82 = .ok (.iastore, 1) := by decide +kernel
theorem dX12_window_83 : decode cX12_window 83 = .ok (.aload_n 0, 1) := by decide +kernel
theorem dX12_window_84 : decode cX12_window 84 = .ok (.getfield 89, 3) := by decide +kernel
theorem dX12_window_87 : decode cX12_window 87 = .ok (.iconst 5, 1) := by decide +kernel
theorem dX12_window_88 : decode cX12_window 88 = .ok (.iload_n 1, 1) := by decide +kernel
theorem dX12_window_89 : decode cX12_window 89 = .ok (.imul, 1) := by decide +kernel
theorem dX12_window_90 : decode cX12_window 90 = .ok (.iconst 1, 1) := by decide +kernel
theorem dX12_window_91 : decode cX12_window 91 = .ok (.iadd, 1) := by decide +kernel
theorem dX12_window_92 : decode cX12_window 92 = .ok (.iload_n 3, 1) := by decide +kernel
theorem dX12_window_93 : decode cX12_window 93 = .ok (.iastore, 1) := by decide +kernel
theorem dX12_window_94 : decode cX12_window 94 = .ok (.aload_n 0, 1) := by decide +kernel
theorem dX12_window_95 : decode cX12_window 95 = .ok (.getfield 89, 3) := by decide +kernel
theorem dX12_window_98 : decode cX12_window 98 = .ok (.iconst 5, 1) := by decide +kernel
theorem dX12_window_99 : decode cX12_window 99 = .ok (.iload_n 1, 1) := by decide +kernel
theorem dX12_window_100 : decode cX12_window 100 = .ok (.imul, 1) := by decide +kernel
theorem dX12_window_101 : decode cX12_window 101 = .ok (.iconst 2, 1) := by decide +kernel
theorem dX12_window_102 : decode cX12_window 102 = .ok (.iadd, 1) := by decide +kernel
theorem dX12_window_103 : decode cX12_window 103 = .ok (.iload 4, 2) := by decide +kernel
theorem dX12_window_105 : decode cX12_window 105 = .ok (.iastore, 1) := by decide +kernel
theorem dX12_window_106 : decode cX12_window 106 = .ok (.aload_n 0, 1) := by decide +kernel
theorem dX12_window_107 : decode cX12_window 107 = .ok (.getfield 89, 3) := by decide +kernel
theorem dX12_window_110 : decode cX12_window 110 = .ok (.iconst 5, 1) := by decide +kernel
theorem dX12_window_111 : decode cX12_window 111 = .ok (.iload_n 1, 1) := by decide +kernel
theorem dX12_window_112 : decode cX12_window 112 = .ok (.imul, 1) := by decide +kernel
theorem dX12_window_113 : decode cX12_window 113 = .ok (.iconst 3, 1) := by decide +kernel
theorem dX12_window_114 : decode cX12_window 114 = .ok (.iadd, 1) := by decide +kernel
theorem dX12_window_115 : decode cX12_window 115 = .ok (.iload 5, 2) := by decide +kernel
theorem dX12_window_117 : decode cX12_window 117 = .ok (.iastore, 1) := by decide +kernel
theorem dX12_window_118 : decode cX12_window 118 = .ok (.aload_n 0, 1) := by decide +kernel
theorem dX12_window_119 : decode cX12_window 119 = .ok (.getfield 89, 3) := by decide +kernel
theorem dX12_window_122 : decode cX12_window 122 = .ok (.iconst 5, 1) := by decide +kernel
theorem dX12_window_123 : decode cX12_window 123 = .ok (.iload_n 1, 1) := by decide +kernel
theorem dX12_window_124 : decode cX12_window 124 = .ok (.imul, 1) := by decide +kernel
theorem dX12_window_125 : decode cX12_window 125 = .ok (.iconst 4, 1) := by decide +kernel
theorem dX12_window_126 : decode cX12_window 126 = .ok (.iadd, 1) := by decide +kernel
theorem dX12_window_127 : decode cX12_window 127 = .ok (.iload 6, 2) := by decide +kernel
theorem dX12_window_129 : decode cX12_window 129 = .ok (.iastore, 1) := by decide +kernel
theorem dX12_window_130 : decode cX12_window 130 = .ok (.iconst 1, 1) := by decide +kernel
theorem dX12_window_131 : decode cX12_window 131 = .ok (.ireturn, 1) := by decide +kernel
theorem dX12_windowOf_0 : decode cX12_windowOf 0 = .ok (.iload_n 1, 1) := by decide +kernel
theorem dX12_windowOf_1 : decode cX12_windowOf 1 = .ok (.invokestatic 269, 3) := by decide +kernel
theorem dX12_windowOf_4 : decode cX12_windowOf 4 = .ok (.ifCond .eq 24, 3) := by decide +kernel
theorem dX12_windowOf_7 : decode cX12_windowOf 7 = .ok (.iload_n 2, 1) := by decide +kernel
theorem dX12_windowOf_8 : decode cX12_windowOf 8 = .ok (.i2l, 1) := by decide +kernel
theorem dX12_windowOf_9 : decode cX12_windowOf 9 = .ok (.lconst 0, 1) := by decide +kernel
theorem dX12_windowOf_10 : decode cX12_windowOf 10 = .ok (.ldc2_w 39, 3) := by decide +kernel
theorem dX12_windowOf_13 : decode cX12_windowOf 13 = .ok (.invokestatic 15, 3) := by decide +kernel
theorem dX12_windowOf_16 : decode cX12_windowOf 16 = .ok (.ifCond .eq 12, 3) := by decide +kernel
theorem dX12_windowOf_19 : decode cX12_windowOf 19 = .ok (.aload_n 0, 1) := by decide +kernel
theorem dX12_windowOf_20 : decode cX12_windowOf 20 = .ok (.iload_n 1, 1) := by decide +kernel
theorem dX12_windowOf_21 : decode cX12_windowOf 21 = .ok (.iload_n 2, 1) := by decide +kernel
theorem dX12_windowOf_22 : decode cX12_windowOf 22 = .ok (.invokevirtual 280, 3) := by decide +kernel
theorem dX12_windowOf_25 : decode cX12_windowOf 25 = .ok (.goto 4, 3) := by decide +kernel
theorem dX12_windowOf_28 : decode cX12_windowOf 28 = .ok (.iconst (-1), 1) := by decide +kernel
theorem dX12_windowOf_29 : decode cX12_windowOf 29 = .ok (.ireturn, 1) := by decide +kernel
theorem dX12_cellOf_0 : decode cX12_cellOf 0 = .ok (.aload_n 0, 1) := by decide +kernel
theorem dX12_cellOf_1 : decode cX12_cellOf 1 = .ok (.iload_n 1, 1) := by decide +kernel
theorem dX12_cellOf_2 : decode cX12_cellOf 2 = .ok (.iconst 1, 1) := by decide +kernel
theorem dX12_cellOf_3 : decode cX12_cellOf 3 = .ok (.invokevirtual 280, 3) := by decide +kernel
theorem dX12_cellOf_6 : decode cX12_cellOf 6 = .ok (.iload_n 2, 1) := by decide +kernel
theorem dX12_cellOf_7 : decode cX12_cellOf 7 = .ok (.aload_n 0, 1) := by decide +kernel
theorem dX12_cellOf_8 : decode cX12_cellOf 8 = .ok (.iload_n 1, 1) := by decide +kernel
theorem dX12_cellOf_9 : decode cX12_cellOf 9 = .ok (.iconst 2, 1) := by decide +kernel
theorem dX12_cellOf_10 : decode cX12_cellOf 10 = .ok (.invokevirtual 280, 3) := by decide +kernel
theorem dX12_cellOf_13 : decode cX12_cellOf 13 = .ok (.imul, 1) := by decide +kernel
theorem dX12_cellOf_14 : decode cX12_cellOf 14 = .ok (.iadd, 1) := by decide +kernel
theorem dX12_cellOf_15 : decode cX12_cellOf 15 = .ok (.ireturn, 1) := by decide +kernel
theorem dX12_looks_0 : decode cX12_looks 0 = .ok (.iload_n 2, 1) := by decide +kernel
theorem dX12_looks_1 : decode cX12_looks 1 = .ok (.i2l, 1) := by decide +kernel
theorem dX12_looks_2 : decode cX12_looks 2 = .ok (.lconst 0, 1) := by decide +kernel
theorem dX12_looks_3 : decode cX12_looks 3 = .ok (.aload_n 0, 1) := by decide +kernel
theorem dX12_looks_4 : decode cX12_looks 4 = .ok (.iload_n 1, 1) := by decide +kernel
theorem dX12_looks_5 : decode cX12_looks 5 = .ok (.iconst 3, 1) := by decide +kernel
theorem dX12_looks_6 : decode cX12_looks 6 = .ok (.invokevirtual 280, 3) := by decide +kernel
theorem dX12_looks_9 : decode cX12_looks 9 = .ok (.iconst 1, 1) := by decide +kernel
theorem dX12_looks_10 : decode cX12_looks 10 = .ok (.isub, 1) := by decide +kernel
theorem dX12_looks_11 : decode cX12_looks 11 = .ok (.i2l, 1) := by decide +kernel
theorem dX12_looks_12 : decode cX12_looks 12 = .ok (.invokestatic 15, 3) := by decide +kernel
theorem dX12_looks_15 : decode cX12_looks 15 = .ok (.ifCond .eq 23, 3) := by decide +kernel
theorem dX12_looks_18 : decode cX12_looks 18 = .ok (.aload_n 0, 1) := by decide +kernel
theorem dX12_looks_19 : decode cX12_looks 19 = .ok (.aload_n 0, 1) := by decide +kernel
theorem dX12_looks_20 : decode cX12_looks 20 = .ok (.iload_n 1, 1) := by decide +kernel
theorem dX12_looks_21 : decode cX12_looks 21 = .ok (.iconst 0, 1) := by decide +kernel
theorem dX12_looks_22 : decode cX12_looks 22 = .ok (.invokevirtual 280, 3) := by decide +kernel
theorem dX12_looks_25 : decode cX12_looks 25 = .ok (.aload_n 0, 1) := by decide +kernel
theorem dX12_looks_26 : decode cX12_looks 26 = .ok (.iload_n 1, 1) := by decide +kernel
theorem dX12_looks_27 : decode cX12_looks 27 = .ok (.iload_n 2, 1) := by decide +kernel
theorem dX12_looks_28 : decode cX12_looks 28 = .ok (.invokevirtual 283, 3) := by decide +kernel
theorem dX12_looks_31 : decode cX12_looks 31 = .ok (.iload_n 3, 1) := by decide +kernel
theorem dX12_looks_32 : decode cX12_looks 32 = .ok (.invokevirtual 236, 3) := by decide +kernel
theorem dX12_looks_35 : decode cX12_looks 35 = .ok (.goto 5, 3) := by decide +kernel
theorem dX12_looks_38 : decode cX12_looks 38 = .ok (.bipush (-13), 2) := by decide +kernel
theorem dX12_looks_40 : decode cX12_looks 40 = .ok (.ireturn, 1) := by decide +kernel
theorem dX12_putsIn_0 : decode cX12_putsIn 0 = .ok (.iload_n 2, 1) := by decide +kernel
theorem dX12_putsIn_1 : decode cX12_putsIn 1 = .ok (.i2l, 1) := by decide +kernel
theorem dX12_putsIn_2 : decode cX12_putsIn 2 = .ok (.lconst 0, 1) := by decide +kernel
theorem dX12_putsIn_3 : decode cX12_putsIn 3 = .ok (.aload_n 0, 1) := by decide +kernel
theorem dX12_putsIn_4 : decode cX12_putsIn 4 = .ok (.iload_n 1, 1) := by decide +kernel
theorem dX12_putsIn_5 : decode cX12_putsIn 5 = .ok (.iconst 3, 1) := by decide +kernel
theorem dX12_putsIn_6 : decode cX12_putsIn 6 = .ok (.invokevirtual 280, 3) := by decide +kernel
theorem dX12_putsIn_9 : decode cX12_putsIn 9 = .ok (.iconst 1, 1) := by decide +kernel
theorem dX12_putsIn_10 : decode cX12_putsIn 10 = .ok (.isub, 1) := by decide +kernel
theorem dX12_putsIn_11 : decode cX12_putsIn 11 = .ok (.i2l, 1) := by decide +kernel
theorem dX12_putsIn_12 : decode cX12_putsIn 12 = .ok (.invokestatic 15, 3) := by decide +kernel
theorem dX12_putsIn_15 : decode cX12_putsIn 15 = .ok (.ifCond .eq 23, 3) := by decide +kernel
theorem dX12_putsIn_18 : decode cX12_putsIn 18 = .ok (.aload_n 0, 1) := by decide +kernel
theorem dX12_putsIn_19 : decode cX12_putsIn 19 = .ok (.aload_n 0, 1) := by decide +kernel
theorem dX12_putsIn_20 : decode cX12_putsIn 20 = .ok (.iload_n 1, 1) := by decide +kernel
theorem dX12_putsIn_21 : decode cX12_putsIn 21 = .ok (.iconst 0, 1) := by decide +kernel
theorem dX12_putsIn_22 : decode cX12_putsIn 22 = .ok (.invokevirtual 280, 3) := by decide +kernel
theorem dX12_putsIn_25 : decode cX12_putsIn 25 = .ok (.aload_n 0, 1) := by decide +kernel
theorem dX12_putsIn_26 : decode cX12_putsIn 26 = .ok (.iload_n 1, 1) := by decide +kernel
theorem dX12_putsIn_27 : decode cX12_putsIn 27 = .ok (.iload_n 2, 1) := by decide +kernel
theorem dX12_putsIn_28 : decode cX12_putsIn 28 = .ok (.invokevirtual 283, 3) := by decide +kernel
theorem dX12_putsIn_31 : decode cX12_putsIn 31 = .ok (.iload_n 3, 1) := by decide +kernel
theorem dX12_putsIn_32 : decode cX12_putsIn 32 = .ok (.invokevirtual 251, 3) := by decide +kernel
theorem dX12_putsIn_35 : decode cX12_putsIn 35 = .ok (.goto 5, 3) := by decide +kernel
theorem dX12_putsIn_38 : decode cX12_putsIn 38 = .ok (.bipush (-13), 2) := by decide +kernel
theorem dX12_putsIn_40 : decode cX12_putsIn 40 = .ok (.ireturn, 1) := by decide +kernel
theorem dX12_look_0 : decode cX12_look 0 = .ok (.iload_n 1, 1) := by decide +kernel
theorem dX12_look_1 : decode cX12_look 1 = .ok (.invokestatic 269, 3) := by decide +kernel
theorem dX12_look_4 : decode cX12_look 4 = .ok (.ifCond .eq 22, 3) := by decide +kernel
theorem dX12_look_7 : decode cX12_look 7 = .ok (.aload_n 0, 1) := by decide +kernel
theorem dX12_look_8 : decode cX12_look 8 = .ok (.aload_n 0, 1) := by decide +kernel
theorem dX12_look_9 : decode cX12_look 9 = .ok (.iload_n 1, 1) := by decide +kernel
theorem dX12_look_10 : decode cX12_look 10 = .ok (.iload_n 2, 1) := by decide +kernel
theorem dX12_look_11 : decode cX12_look 11 = .ok (.aload_n 0, 1) := by decide +kernel
theorem dX12_look_12 : decode cX12_look 12 = .ok (.iload_n 1, 1) := by decide +kernel
theorem dX12_look_13 : decode cX12_look 13 = .ok (.iconst 4, 1) := by decide +kernel
theorem dX12_look_14 : decode cX12_look 14 = .ok (.invokevirtual 280, 3) := by decide +kernel
theorem dX12_look_17 : decode cX12_look 17 = .ok (.invokevirtual 286, 3) := by decide +kernel
theorem dX12_look_20 : decode cX12_look 20 = .ok (.invokevirtual 239, 3) := by decide +kernel
theorem dX12_look_23 : decode cX12_look 23 = .ok (.goto 4, 3) := by decide +kernel
theorem dX12_look_26 : decode cX12_look 26 = .ok (.iconst (-1), 1) := by decide +kernel
theorem dX12_look_27 : decode cX12_look 27 = .ok (.ireturn, 1) := by decide +kernel
theorem dX12_faultAt_0 : decode cX12_faultAt 0 = .ok (.aload_n 0, 1) := by decide +kernel
theorem dX12_faultAt_1 : decode cX12_faultAt 1 = .ok (.iload_n 1, 1) := by decide +kernel
theorem dX12_faultAt_2 : decode cX12_faultAt 2 = .ok (.iload_n 2, 1) := by decide +kernel
theorem dX12_faultAt_3 : decode cX12_faultAt 3 = .ok (.aload_n 0, 1) := by decide +kernel
theorem dX12_faultAt_4 : decode cX12_faultAt 4 = .ok (.iload_n 1, 1) := by decide +kernel
theorem dX12_faultAt_5 : decode cX12_faultAt 5 = .ok (.iconst 4, 1) := by decide +kernel
theorem dX12_faultAt_6 : decode cX12_faultAt 6 = .ok (.invokevirtual 280, 3) := by decide +kernel
theorem dX12_faultAt_9 : decode cX12_faultAt 9 = .ok (.invokevirtual 286, 3) := by decide +kernel
theorem dX12_faultAt_12 : decode cX12_faultAt 12 = .ok (.istore_n 3, 1) := by decide +kernel
theorem dX12_faultAt_13 : decode cX12_faultAt 13 = .ok (.iload_n 3, 1) := by decide +kernel
theorem dX12_faultAt_14 : decode cX12_faultAt 14 = .ok (.ifCond .ne 17, 3) := by decide +kernel
theorem dX12_faultAt_17 : decode cX12_faultAt 17 = .ok (.aload_n 0, 1) := by decide +kernel
theorem dX12_faultAt_18 : decode cX12_faultAt 18 = .ok (.getfield 3, 3) := by decide +kernel
theorem dX12_faultAt_21 : decode cX12_faultAt 21 = .ok (.bipush 8, 2) := by decide +kernel
theorem dX12_faultAt_23 : decode cX12_faultAt 23 = .ok (.if_icmp .lt 8, 3) := by decide +kernel
theorem dX12_faultAt_26 : decode cX12_faultAt 26 = .ok (.bipush (-12), 2) := by decide +kernel
theorem dX12_faultAt_28 : decode cX12_faultAt 28 = .ok (.goto 4, 3) := by decide +kernel
theorem dX12_faultAt_31 : decode cX12_faultAt 31 = .ok (.iload_n 3, 1) := by decide +kernel
theorem dX12_faultAt_32 : decode cX12_faultAt 32 = .ok (.ireturn, 1) := by decide +kernel
theorem dX12_firstFault_0 : decode cX12_firstFault 0 = .ok (.iconst 0, 1) := by decide +kernel
theorem dX12_firstFault_1 : decode cX12_firstFault 1 = .ok (.istore_n 2, 1) := by decide +kernel
theorem dX12_firstFault_2 : decode cX12_firstFault 2 = .ok (.iload_n 2, 1) := by decide +kernel
theorem dX12_firstFault_3 : decode cX12_firstFault 3 = .ok (.aload_n 0, 1) := by decide +kernel
theorem dX12_firstFault_4 : decode cX12_firstFault 4 = .ok (.iload_n 1, 1) := by decide +kernel
theorem dX12_firstFault_5 : decode cX12_firstFault 5 = .ok (.iconst 3, 1) := by decide +kernel
theorem dX12_firstFault_6 : decode cX12_firstFault 6 = .ok (.invokevirtual 280, 3) := by decide +kernel
theorem dX12_firstFault_9 : decode cX12_firstFault 9 = .ok (.if_icmp .ge 20, 3) := by decide +kernel
theorem dX12_firstFault_12 : decode cX12_firstFault 12 = .ok (.aload_n 0, 1) := by decide +kernel
theorem dX12_firstFault_13 : decode cX12_firstFault 13 = .ok (.iload_n 1, 1) := by decide +kernel
theorem dX12_firstFault_14 : decode cX12_firstFault 14 = .ok (.iload_n 2, 1) := by decide +kernel
theorem dX12_firstFault_15 : decode cX12_firstFault 15 = .ok (.invokevirtual 289, 3) := by decide +kernel
theorem dX12_firstFault_18 : decode cX12_firstFault 18 = .ok (.ifCond .eq 5, 3) := by decide +kernel
theorem dX12_firstFault_21 : decode cX12_firstFault 21 = .ok (.iload_n 2, 1) := by decide +kernel
theorem dX12_firstFault_22 : decode cX12_firstFault 22 = .ok (.ireturn, 1) := by decide +kernel
theorem dX12_firstFault_23 : decode cX12_firstFault 23 = .ok (.iinc 2 1, 3) := by decide +kernel
theorem dX12_firstFault_26 : decode cX12_firstFault 26 = .ok (.goto (-24), 3) := by decide +kernel
theorem dX12_firstFault_29 : decode cX12_firstFault 29 = .ok (.bipush (-5), 2) := by decide +kernel
theorem dX12_firstFault_31 : decode cX12_firstFault 31 = .ok (.ireturn, 1) := by decide +kernel
theorem dX12_sum_0 : decode cX12_sum 0 = .ok (.iload_n 1, 1) := by decide +kernel
theorem dX12_sum_1 : decode cX12_sum 1 = .ok (.invokestatic 269, 3) := by decide +kernel
theorem dX12_sum_4 : decode cX12_sum 4 = .ok (.ifCond .eq 13, 3) := by decide +kernel
theorem dX12_sum_7 : decode cX12_sum 7 = .ok (.aload_n 0, 1) := by decide +kernel
theorem dX12_sum_8 : decode cX12_sum 8 = .ok (.iload_n 1, 1) := by decide +kernel
theorem dX12_sum_9 : decode cX12_sum 9 = .ok (.invokevirtual 292, 3) := by decide +kernel
theorem dX12_sum_12 : decode cX12_sum 12 = .ok (.bipush (-5), 2) := by decide +kernel
theorem dX12_sum_14 : decode cX12_sum 14 = .ok (.if_icmp .eq 7, 3) := by decide +kernel
theorem dX12_sum_17 : decode cX12_sum 17 = .ok (.ldc2_w 246, 3) := by decide +kernel
theorem dX12_sum_20 : decode cX12_sum 20 = .ok (.lreturn, 1) := by decide +kernel
theorem dX12_sum_21 : decode cX12_sum 21 = .ok (.lconst 0, 1) := by decide +kernel
theorem dX12_sum_22 : decode cX12_sum 22 = .ok (.lstore_n 2, 1) := by decide +kernel
theorem dX12_sum_23 : decode cX12_sum 23 = .ok (.iconst 0, 1) := by decide +kernel
theorem dX12_sum_24 : decode cX12_sum 24 = .ok (.istore 4, 2) := by decide +kernel
theorem dX12_sum_26 : decode cX12_sum 26 = .ok (.iload 4, 2) := by decide +kernel
theorem dX12_sum_28 : decode cX12_sum 28 = .ok (.aload_n 0, 1) := by decide +kernel
theorem dX12_sum_29 : decode cX12_sum 29 = .ok (.iload_n 1, 1) := by decide +kernel
theorem dX12_sum_30 : decode cX12_sum 30 = .ok (.iconst 3, 1) := by decide +kernel
theorem dX12_sum_31 : decode cX12_sum 31 = .ok (.invokevirtual 280, 3) := by decide +kernel
theorem dX12_sum_34 : decode cX12_sum 34 = .ok (.if_icmp .ge 37, 3) := by decide +kernel
theorem dX12_sum_37 : decode cX12_sum 37 = .ok (.aload_n 0, 1) := by decide +kernel
theorem dX12_sum_38 : decode cX12_sum 38 = .ok (.iload_n 1, 1) := by decide +kernel
theorem dX12_sum_39 : decode cX12_sum 39 = .ok (.iload 4, 2) := by decide +kernel
theorem dX12_sum_41 : decode cX12_sum 41 = .ok (.aload_n 0, 1) := by decide +kernel
theorem dX12_sum_42 : decode cX12_sum 42 = .ok (.iload_n 1, 1) := by decide +kernel
theorem dX12_sum_43 : decode cX12_sum 43 = .ok (.iconst 4, 1) := by decide +kernel
theorem dX12_sum_44 : decode cX12_sum 44 = .ok (.invokevirtual 280, 3) := by decide +kernel
theorem dX12_sum_47 : decode cX12_sum 47 = .ok (.invokevirtual 286, 3) := by decide +kernel
theorem dX12_sum_50 : decode cX12_sum 50 = .ok (.pop, 1) := by decide +kernel
theorem dX12_sum_51 : decode cX12_sum 51 = .ok (.lload_n 2, 1) := by decide +kernel
theorem dX12_sum_52 : decode cX12_sum 52 = .ok (.aload_n 0, 1) := by decide +kernel
theorem dX12_sum_53 : decode cX12_sum 53 = .ok (.getfield 3, 3) := by decide +kernel
theorem dX12_sum_56 : decode cX12_sum 56 = .ok (.aload_n 0, 1) := by decide +kernel
theorem dX12_sum_57 : decode cX12_sum 57 = .ok (.getfield 9, 3) := by decide +kernel
theorem dX12_sum_60 : decode cX12_sum 60 = .ok (.invokestatic 242, 3) := by decide +kernel
theorem dX12_sum_63 : decode cX12_sum 63 = .ok (.ladd, 1) := by decide +kernel
theorem dX12_sum_64 : decode cX12_sum 64 = .ok (.lstore_n 2, 1) := by decide +kernel
theorem dX12_sum_65 : decode cX12_sum 65 = .ok (.iinc 4 1, 3) := by decide +kernel
theorem dX12_sum_68 : decode cX12_sum 68 = .ok (.goto (-42), 3) := by decide +kernel
theorem dX12_sum_71 : decode cX12_sum 71 = .ok (.lload_n 2, 1) := by decide +kernel
theorem dX12_sum_72 : decode cX12_sum 72 = .ok (.lreturn, 1) := by decide +kernel
theorem dX12_fault_0 : decode cX12_fault 0 = .ok (.iload_n 1, 1) := by decide +kernel
theorem dX12_fault_1 : decode cX12_fault 1 = .ok (.invokestatic 269, 3) := by decide +kernel
theorem dX12_fault_4 : decode cX12_fault 4 = .ok (.ifCond .eq 13, 3) := by decide +kernel
theorem dX12_fault_7 : decode cX12_fault 7 = .ok (.iload_n 2, 1) := by decide +kernel
theorem dX12_fault_8 : decode cX12_fault 8 = .ok (.i2l, 1) := by decide +kernel
theorem dX12_fault_9 : decode cX12_fault 9 = .ok (.lconst 0, 1) := by decide +kernel
theorem dX12_fault_10 : decode cX12_fault 10 = .ok (.lconst 1, 1) := by decide +kernel
theorem dX12_fault_11 : decode cX12_fault 11 = .ok (.invokestatic 15, 3) := by decide +kernel
theorem dX12_fault_14 : decode cX12_fault 14 = .ok (.ifCond .ne 5, 3) := by decide +kernel
theorem dX12_fault_17 : decode cX12_fault 17 = .ok (.iconst (-1), 1) := by decide +kernel
theorem dX12_fault_18 : decode cX12_fault 18 = .ok (.ireturn, 1) := by decide +kernel
theorem dX12_fault_19 : decode cX12_fault 19 = .ok (.aload_n 0, 1) := by decide +kernel
theorem dX12_fault_20 : decode cX12_fault 20 = .ok (.iload_n 1, 1) := by decide +kernel
theorem dX12_fault_21 : decode cX12_fault 21 = .ok (.invokevirtual 292, 3) := by decide +kernel
theorem dX12_fault_24 : decode cX12_fault 24 = .ok (.istore_n 3, 1) := by decide +kernel
theorem dX12_fault_25 : decode cX12_fault 25 = .ok (.iload_n 3, 1) := by decide +kernel
theorem dX12_fault_26 : decode cX12_fault 26 = .ok (.bipush (-5), 2) := by decide +kernel
theorem dX12_fault_28 : decode cX12_fault 28 = .ok (.if_icmp .eq 7, 3) := by decide +kernel
theorem dX12_fault_31 : decode cX12_fault 31 = .ok (.iload_n 2, 1) := by decide +kernel
theorem dX12_fault_32 : decode cX12_fault 32 = .ok (.ifCond .ne 7, 3) := by decide +kernel
theorem dX12_fault_35 : decode cX12_fault 35 = .ok (.iload_n 3, 1) := by decide +kernel
theorem dX12_fault_36 : decode cX12_fault 36 = .ok (.goto 9, 3) := by decide +kernel
theorem dX12_fault_39 : decode cX12_fault 39 = .ok (.aload_n 0, 1) := by decide +kernel
theorem dX12_fault_40 : decode cX12_fault 40 = .ok (.iload_n 1, 1) := by decide +kernel
theorem dX12_fault_41 : decode cX12_fault 41 = .ok (.iload_n 3, 1) := by decide +kernel
theorem dX12_fault_42 : decode cX12_fault 42 = .ok (.invokevirtual 289, 3) := by decide +kernel
theorem dX12_fault_45 : decode cX12_fault 45 = .ok (.ireturn, 1) := by decide +kernel
theorem dX12_isLess_0 : decode cX12_isLess 0 = .ok (.aload_n 0, 1) := by decide +kernel
theorem dX12_isLess_1 : decode cX12_isLess 1 = .ok (.iload_n 1, 1) := by decide +kernel
theorem dX12_isLess_2 : decode cX12_isLess 2 = .ok (.iconst 4, 1) := by decide +kernel
theorem dX12_isLess_3 : decode cX12_isLess 3 = .ok (.invokevirtual 280, 3) := by decide +kernel
theorem dX12_isLess_6 : decode cX12_isLess 6 = .ok (.istore 4, 2) := by decide +kernel
theorem dX12_isLess_8 : decode cX12_isLess 8 = .ok (.aload_n 0, 1) := by decide +kernel
theorem dX12_isLess_9 : decode cX12_isLess 9 = .ok (.iload_n 1, 1) := by decide +kernel
theorem dX12_isLess_10 : decode cX12_isLess 10 = .ok (.iload_n 2, 1) := by decide +kernel
theorem dX12_isLess_11 : decode cX12_isLess 11 = .ok (.iload 4, 2) := by decide +kernel
theorem dX12_isLess_13 : decode cX12_isLess 13 = .ok (.invokevirtual 286, 3) := by decide +kernel
theorem dX12_isLess_16 : decode cX12_isLess 16 = .ok (.pop, 1) := by decide +kernel
theorem dX12_isLess_17 : decode cX12_isLess 17 = .ok (.aload_n 0, 1) := by decide +kernel
theorem dX12_isLess_18 : decode cX12_isLess 18 = .ok (.getfield 9, 3) := by decide +kernel
theorem dX12_isLess_21 : decode cX12_isLess 21 = .ok (.lstore 5, 2) := by decide +kernel
theorem dX12_isLess_23 : decode cX12_isLess 23 = .ok (.aload_n 0, 1) := by decide +kernel
theorem dX12_isLess_24 : decode cX12_isLess 24 = .ok (.iload_n 1, 1) := by decide +kernel
theorem dX12_isLess_25 : decode cX12_isLess 25 = .ok (.iload_n 3, 1) := by decide +kernel
theorem dX12_isLess_26 : decode cX12_isLess 26 = .ok (.iload 4, 2) := by decide +kernel
theorem dX12_isLess_28 : decode cX12_isLess 28 = .ok (.invokevirtual 286, 3) := by decide +kernel
theorem dX12_isLess_31 : decode cX12_isLess 31 = .ok (.pop, 1) := by decide +kernel
theorem dX12_isLess_32 : decode cX12_isLess 32 = .ok (.iload 4, 2) := by decide +kernel
theorem dX12_isLess_34 : decode cX12_isLess 34 = .ok (.bipush 6, 2) := by decide +kernel
theorem dX12_isLess_36 : decode cX12_isLess 36 = .ok (.if_icmp .lt 50, 3) := by decide +kernel
theorem dX12_isLess_39 : decode cX12_isLess 39 = .ok (.iload 4, 2) := by decide +kernel
theorem dX12_isLess_41 : decode cX12_isLess 41 = .ok (.lload 5, 2) := by decide +kernel
theorem dX12_isLess_43 : decode cX12_isLess 43 = .ok (.invokestatic 53, 3) := by decide +kernel
theorem dX12_isLess_46 : decode cX12_isLess 46 = .ok (.dstore 7, 2) := by decide +kernel
theorem dX12_isLess_48 : decode cX12_isLess 48 = .ok (.iload 4, 2) := by decide +kernel
theorem dX12_isLess_50 : decode cX12_isLess 50 = .ok (.aload_n 0, 1) := by decide +kernel
theorem dX12_isLess_51 : decode cX12_isLess 51 = .ok (.getfield 9, 3) := by decide +kernel
theorem dX12_isLess_54 : decode cX12_isLess 54 = .ok (.invokestatic 53, 3) := by decide +kernel
theorem dX12_isLess_57 : decode cX12_isLess 57 = .ok (.dstore 9, 2) := by decide +kernel
theorem dX12_isLess_59 : decode cX12_isLess 59 = .ok (.dload 7, 2) := by decide +kernel
theorem dX12_isLess_61 : decode cX12_isLess 61 = .ok (.dload 9, 2) := by decide +kernel
theorem dX12_isLess_63 : decode cX12_isLess 63 = .ok (.dcmp .g, 1) := by decide +kernel
theorem dX12_isLess_64 : decode cX12_isLess 64 = .ok (.ifCond .lt 16, 3) := by decide +kernel
theorem dX12_isLess_67 : decode cX12_isLess 67 = .ok (.dload 7, 2) := by decide +kernel
theorem dX12_isLess_69 : decode cX12_isLess 69 = .ok (.dload 9, 2) := by decide +kernel
theorem dX12_isLess_71 : decode cX12_isLess 71 = .ok (.dcmp .l, 1) := by decide +kernel
theorem dX12_isLess_72 : decode cX12_isLess 72 = .ok (.ifCond .ne 12, 3) := by decide +kernel
theorem dX12_isLess_75 : decode cX12_isLess 75 = .ok (.iload_n 2, 1) := by decide +kernel
theorem dX12_isLess_76 : decode cX12_isLess 76 = .ok (.iload_n 3, 1) := by decide +kernel
theorem dX12_isLess_77 : decode cX12_isLess 77 = .ok (.if_icmp .ge 7, 3) := by decide +kernel
theorem dX12_isLess_80 : decode cX12_isLess 80 = .ok (.iconst 1, 1) := by decide +kernel
theorem dX12_isLess_81 : decode cX12_isLess 81 = .ok (.goto 4, 3) := by decide +kernel
theorem dX12_isLess_84 : decode cX12_isLess 84 = .ok (.iconst 0, 1) := by decide +kernel
theorem dX12_isLess_85 : decode cX12_isLess 85 = .ok (.ireturn, 1) := by decide +kernel
theorem dX12_isLess_86 : decode cX12_isLess 86 = .ok (.lload 5, 2) := by decide +kernel
theorem dX12_isLess_88 : decode cX12_isLess 88 = .ok (.aload_n 0, 1) := by decide +kernel
theorem dX12_isLess_89 : decode cX12_isLess 89 = .ok (.getfield 9, 3) := by decide +kernel
theorem dX12_isLess_92 : decode cX12_isLess 92 = .ok (.lcmp, 1) := by decide +kernel
theorem dX12_isLess_93 : decode cX12_isLess 93 = .ok (.ifCond .eq 21, 3) := by decide +kernel
theorem dX12_isLess_96 : decode cX12_isLess 96 = .ok (.lload 5, 2) := by decide +kernel
theorem dX12_isLess_98 : decode cX12_isLess 98 = .ok (.aload_n 0, 1) := by decide +kernel
theorem dX12_isLess_99 : decode cX12_isLess 99 = .ok (.getfield 9, 3) := by decide +kernel
theorem dX12_isLess_102 : decode cX12_isLess 102 = .ok (.lcmp, 1) := by decide +kernel
theorem dX12_isLess_103 : decode cX12_isLess 103 = .ok (.ifCond .ge 7, 3) := by decide +kernel
theorem dX12_isLess_106 : decode cX12_isLess 106 = .ok (.iconst 1, 1) := by decide +kernel
theorem dX12_isLess_107 : decode cX12_isLess 107 = .ok (.goto 17, 3) := by decide +kernel
theorem dX12_isLess_110 : decode cX12_isLess 110 = .ok (.iconst 0, 1) := by decide +kernel
theorem dX12_isLess_111 : decode cX12_isLess 111 = .ok (.goto 13, 3) := by decide +kernel
theorem dX12_isLess_114 : decode cX12_isLess 114 = .ok (.iload_n 2, 1) := by decide +kernel
theorem dX12_isLess_115 : decode cX12_isLess 115 = .ok (.iload_n 3, 1) := by decide +kernel
theorem dX12_isLess_116 : decode cX12_isLess 116 = .ok (.if_icmp .ge 7, 3) := by decide +kernel
theorem dX12_isLess_119 : decode cX12_isLess 119 = .ok (.iconst 1, 1) := by decide +kernel
theorem dX12_isLess_120 : decode cX12_isLess 120 = .ok (.goto 4, 3) := by decide +kernel
theorem dX12_isLess_123 : decode cX12_isLess 123 = .ok (.iconst 0, 1) := by decide +kernel
theorem dX12_isLess_124 : decode cX12_isLess 124 = .ok (.ireturn, 1) := by decide +kernel
theorem dX12_least_0 : decode cX12_least 0 = .ok (.iload_n 1, 1) := by decide +kernel
theorem dX12_least_1 : decode cX12_least 1 = .ok (.invokestatic 269, 3) := by decide +kernel
theorem dX12_least_4 : decode cX12_least 4 = .ok (.ifCond .eq 7, 3) := by decide +kernel
theorem dX12_least_7 : decode cX12_least 7 = .ok (.iload_n 2, 1) := by decide +kernel
theorem dX12_least_8 : decode cX12_least 8 = .ok (.ifCond .ge 5, 3) := by decide +kernel
theorem dX12_least_11 : decode cX12_least 11 = .ok (.iconst (-1), 1) := by decide +kernel
theorem dX12_least_12 : decode cX12_least 12 = .ok (.ireturn, 1) := by decide +kernel
theorem dX12_least_13 : decode cX12_least 13 = .ok (.aload_n 0, 1) := by decide +kernel
theorem dX12_least_14 : decode cX12_least 14 = .ok (.iload_n 1, 1) := by decide +kernel
theorem dX12_least_15 : decode cX12_least 15 = .ok (.iconst 4, 1) := by decide +kernel
theorem dX12_least_16 : decode cX12_least 16 = .ok (.invokevirtual 280, 3) := by decide +kernel
theorem dX12_least_19 : decode cX12_least 19 = .ok (.bipush 8, 2) := by decide +kernel
theorem dX12_least_21 : decode cX12_least 21 = .ok (.if_icmp .ne 6, 3) := by decide +kernel
theorem dX12_least_24 : decode cX12_least 24 = .ok (.bipush (-2), 2) := by decide +kernel
theorem dX12_least_26 : decode cX12_least 26 = .ok (.ireturn, 1) := by decide +kernel
theorem dX12_least_27 : decode cX12_least 27 = .ok (.aload_n 0, 1) := by decide +kernel
theorem dX12_least_28 : decode cX12_least 28 = .ok (.iload_n 1, 1) := by decide +kernel
theorem dX12_least_29 : decode cX12_least 29 = .ok (.invokevirtual 292, 3) := by decide +kernel
theorem dX12_least_32 : decode cX12_least 32 = .ok (.istore_n 3, 1) := by decide +kernel
theorem dX12_least_33 : decode cX12_least 33 = .ok (.iload_n 3, 1) := by decide +kernel
theorem dX12_least_34 : decode cX12_least 34 = .ok (.bipush (-5), 2) := by decide +kernel
theorem dX12_least_36 : decode cX12_least 36 = .ok (.if_icmp .eq 10, 3) := by decide +kernel
theorem dX12_least_39 : decode cX12_least 39 = .ok (.aload_n 0, 1) := by decide +kernel
theorem dX12_least_40 : decode cX12_least 40 = .ok (.iload_n 1, 1) := by decide +kernel
theorem dX12_least_41 : decode cX12_least 41 = .ok (.iload_n 3, 1) := by decide +kernel
theorem dX12_least_42 : decode cX12_least 42 = .ok (.invokevirtual 289, 3) := by decide +kernel
theorem dX12_least_45 : decode cX12_least 45 = .ok (.ireturn, 1) := by decide +kernel
theorem dX12_least_46 : decode cX12_least 46 = .ok (.iconst 0, 1) := by decide +kernel
theorem dX12_least_47 : decode cX12_least 47 = .ok (.istore 4, 2) := by decide +kernel
theorem dX12_least_49 : decode cX12_least 49 = .ok (.iload 4, 2) := by decide +kernel
theorem dX12_least_51 : decode cX12_least 51 = .ok (.aload_n 0, 1) := by decide +kernel
theorem dX12_least_52 : decode cX12_least 52 = .ok (.iload_n 1, 1) := by decide +kernel
theorem dX12_least_53 : decode cX12_least 53 = .ok (.iconst 3, 1) := by decide +kernel
theorem dX12_least_54 : decode cX12_least 54 = .ok (.invokevirtual 280, 3) := by decide +kernel
theorem dX12_least_57 : decode cX12_least 57 = .ok (.if_icmp .ge 70, 3) := by decide +kernel
theorem dX12_least_60 : decode cX12_least 60 = .ok (.iconst 0, 1) := by decide +kernel
theorem dX12_least_61 : decode cX12_least 61 = .ok (.istore 5, 2) := by decide +kernel
theorem dX12_least_63 : decode cX12_least 63 = .ok (.iconst 0, 1) := by decide +kernel
theorem dX12_least_64 : decode cX12_least 64 = .ok (.istore 6, 2) := by decide +kernel
theorem dX12_least_66 : decode cX12_least 66 = .ok (.iload 6, 2) := by decide +kernel
theorem dX12_least_68 : decode cX12_least 68 = .ok (.aload_n 0, 1) := by decide +kernel
theorem dX12_least_69 : decode cX12_least 69 = .ok (.iload_n 1, 1) := by decide +kernel
theorem dX12_least_70 : decode cX12_least 70 = .ok (.iconst 3, 1) := by decide +kernel
theorem dX12_least_71 : decode cX12_least 71 = .ok (.invokevirtual 280, 3) := by decide +kernel
theorem dX12_least_74 : decode cX12_least 74 = .ok (.if_icmp .ge 38, 3) := by decide +kernel
theorem dX12_least_77 : decode cX12_least 77 = .ok (.iload 5, 2) := by decide +kernel
theorem dX12_least_79 : decode cX12_least 79 = .ok (.iload 6, 2) := by decide +kernel
theorem dX12_least_81 : decode cX12_least 81 = .ok (.iload 4, 2) := by decide +kernel
theorem dX12_least_83 : decode cX12_least 83 = .ok (.if_icmp .eq 19, 3) := by decide +kernel
theorem dX12_least_86 : decode cX12_least 86 = .ok (.aload_n 0, 1) := by decide +kernel
theorem dX12_least_87 : decode cX12_least 87 = .ok (.iload_n 1, 1) := by decide +kernel
theorem dX12_least_88 : decode cX12_least 88 = .ok (.iload 6, 2) := by decide +kernel
theorem dX12_least_90 : decode cX12_least 90 = .ok (.iload 4, 2) := by decide +kernel
theorem dX12_least_92 : decode cX12_least 92 = .ok (.invokevirtual 295, 3) := by decide +kernel
theorem dX12_least_95 : decode cX12_least 95 = .ok (.ifCond .eq 7, 3) := by decide +kernel
theorem dX12_least_98 : decode cX12_least 98 = .ok (.iconst 1, 1) := by decide +kernel
theorem dX12_least_99 : decode cX12_least 99 = .ok (.goto 4, 3) := by decide +kernel
theorem dX12_least_102 : decode cX12_least 102 = .ok (.iconst 0, 1) := by decide +kernel
theorem dX12_least_103 : decode cX12_least 103 = .ok (.iadd, 1) := by decide +kernel
theorem dX12_least_104 : decode cX12_least 104 = .ok (.istore 5, 2) := by decide +kernel
theorem dX12_least_106 : decode cX12_least 106 = .ok (.iinc 6 1, 3) := by decide +kernel
theorem dX12_least_109 : decode cX12_least 109 = .ok (.goto (-43), 3) := by decide +kernel
theorem dX12_least_112 : decode cX12_least 112 = .ok (.iload 5, 2) := by decide +kernel
theorem dX12_least_114 : decode cX12_least 114 = .ok (.iload_n 2, 1) := by decide +kernel
theorem dX12_least_115 : decode cX12_least 115 = .ok (.if_icmp .ne 6, 3) := by decide +kernel
theorem dX12_least_118 : decode cX12_least 118 = .ok (.iload 4, 2) := by decide +kernel
theorem dX12_least_120 : decode cX12_least 120 = .ok (.ireturn, 1) := by decide +kernel
theorem dX12_least_121 : decode cX12_least 121 = .ok (.iinc 4 1, 3) := by decide +kernel
theorem dX12_least_124 : decode cX12_least 124 = .ok (.goto (-75), 3) := by decide +kernel
theorem dX12_least_127 : decode cX12_least 127 = .ok (.bipush (-5), 2) := by decide +kernel
theorem dX12_least_129 : decode cX12_least 129 = .ok (.ireturn, 1) := by decide +kernel
theorem dX12_find_0 : decode cX12_find 0 = .ok (.iload_n 1, 1) := by decide +kernel
theorem dX12_find_1 : decode cX12_find 1 = .ok (.invokestatic 269, 3) := by decide +kernel
theorem dX12_find_4 : decode cX12_find 4 = .ok (.ifCond .eq 19, 3) := by decide +kernel
theorem dX12_find_7 : decode cX12_find 7 = .ok (.iload_n 2, 1) := by decide +kernel
theorem dX12_find_8 : decode cX12_find 8 = .ok (.ifCond .lt 15, 3) := by decide +kernel
theorem dX12_find_11 : decode cX12_find 11 = .ok (.iload_n 3, 1) := by decide +kernel
theorem dX12_find_12 : decode cX12_find 12 = .ok (.i2l, 1) := by decide +kernel
theorem dX12_find_13 : decode cX12_find 13 = .ok (.lconst 0, 1) := by decide +kernel
theorem dX12_find_14 : decode cX12_find 14 = .ok (.ldc2_w 263, 3) := by decide +kernel
theorem dX12_find_17 : decode cX12_find 17 = .ok (.invokestatic 15, 3) := by decide +kernel
theorem dX12_find_20 : decode cX12_find 20 = .ok (.ifCond .ne 5, 3) := by decide +kernel
theorem dX12_find_23 : decode cX12_find 23 = .ok (.iconst (-1), 1) := by decide +kernel
theorem dX12_find_24 : decode cX12_find 24 = .ok (.ireturn, 1) := by decide +kernel
theorem dX12_find_25 : decode cX12_find 25 = .ok (.iload_n 3, 1) := by decide +kernel
theorem dX12_find_26 : decode cX12_find 26 = .ok (.lload 4, 2) := by decide +kernel
theorem dX12_find_28 : decode cX12_find 28 = .ok (.invokestatic 265, 3) := by decide +kernel
theorem dX12_find_31 : decode cX12_find 31 = .ok (.ifCond .eq 6, 3) := by decide +kernel
theorem dX12_find_34 : decode cX12_find 34 = .ok (.bipush (-2), 2) := by decide +kernel
theorem dX12_find_36 : decode cX12_find 36 = .ok (.ireturn, 1) := by decide +kernel
theorem dX12_find_37 : decode cX12_find 37 = .ok (.aload_n 0, 1) := by decide +kernel
theorem dX12_find_38 : decode cX12_find 38 = .ok (.iload_n 3, 1) := by decide +kernel
theorem dX12_find_39 : decode cX12_find 39 = .ok (.lload 4, 2) := by decide +kernel
theorem dX12_find_41 : decode cX12_find 41 = .ok (.invokevirtual 257, 3) := by decide +kernel
theorem dX12_find_44 : decode cX12_find 44 = .ok (.aload_n 0, 1) := by decide +kernel
theorem dX12_find_45 : decode cX12_find 45 = .ok (.getfield 9, 3) := by decide +kernel
theorem dX12_find_48 : decode cX12_find 48 = .ok (.lstore 6, 2) := by decide +kernel
theorem dX12_find_50 : decode cX12_find 50 = .ok (.iload_n 2, 1) := by decide +kernel
theorem dX12_find_51 : decode cX12_find 51 = .ok (.istore 8, 2) := by decide +kernel
theorem dX12_find_53 : decode cX12_find 53 = .ok (.iload 8, 2) := by decide +kernel
theorem dX12_find_55 : decode cX12_find 55 = .ok (.aload_n 0, 1) := by decide +kernel
theorem dX12_find_56 : decode cX12_find 56 = .ok (.iload_n 1, 1) := by decide +kernel
theorem dX12_find_57 : decode cX12_find 57 = .ok (.iconst 3, 1) := by decide +kernel
theorem dX12_find_58 : decode cX12_find 58 = .ok (.invokevirtual 280, 3) := by decide +kernel
theorem dX12_find_61 : decode cX12_find 61 = .ok (.if_icmp .ge 45, 3) := by decide +kernel
theorem dX12_find_64 : decode cX12_find 64 = .ok (.aload_n 0, 1) := by decide +kernel
theorem dX12_find_65 : decode cX12_find 65 = .ok (.iload_n 1, 1) := by decide +kernel
theorem dX12_find_66 : decode cX12_find 66 = .ok (.iload 8, 2) := by decide +kernel
theorem dX12_find_68 : decode cX12_find 68 = .ok (.aload_n 0, 1) := by decide +kernel
theorem dX12_find_69 : decode cX12_find 69 = .ok (.iload_n 1, 1) := by decide +kernel
theorem dX12_find_70 : decode cX12_find 70 = .ok (.iconst 4, 1) := by decide +kernel
theorem dX12_find_71 : decode cX12_find 71 = .ok (.invokevirtual 280, 3) := by decide +kernel
theorem dX12_find_74 : decode cX12_find 74 = .ok (.invokevirtual 286, 3) := by decide +kernel
theorem dX12_find_77 : decode cX12_find 77 = .ok (.ifCond .ne 23, 3) := by decide +kernel
theorem dX12_find_80 : decode cX12_find 80 = .ok (.aload_n 0, 1) := by decide +kernel
theorem dX12_find_81 : decode cX12_find 81 = .ok (.getfield 3, 3) := by decide +kernel
theorem dX12_find_84 : decode cX12_find 84 = .ok (.aload_n 0, 1) := by decide +kernel
theorem dX12_find_85 : decode cX12_find 85 = .ok (.getfield 9, 3) := by decide +kernel
theorem dX12_find_88 : decode cX12_find 88 = .ok (.iload_n 3, 1) := by decide +kernel
theorem dX12_find_89 : decode cX12_find 89 = .ok (.lload 6, 2) := by decide +kernel
theorem dX12_find_91 : decode cX12_find 91 = .ok (.invokestatic 299, 3) := by decide +kernel
theorem dX12_find_94 : decode cX12_find 94 = .ok (.ifCond .eq 6, 3) := by decide +kernel
theorem dX12_find_97 : decode cX12_find 97 = .ok (.iload 8, 2) := by decide +kernel
theorem dX12_find_99 : decode cX12_find 99 = .ok (.ireturn, 1) := by decide +kernel
theorem dX12_find_100 : decode cX12_find 100 = .ok (.iinc 8 1, 3) := by decide +kernel
theorem dX12_find_103 : decode cX12_find 103 = .ok (.goto (-50), 3) := by decide +kernel
theorem dX12_find_106 : decode cX12_find 106 = .ok (.bipush (-5), 2) := by decide +kernel
theorem dX12_find_108 : decode cX12_find 108 = .ok (.ireturn, 1) := by decide +kernel
theorem dX12_begins_0 : decode cX12_begins 0 = .ok (.aload_n 0, 1) := by decide +kernel
theorem dX12_begins_1 : decode cX12_begins 1 = .ok (.iconst 0, 1) := by decide +kernel
theorem dX12_begins_2 : decode cX12_begins 2 = .ok (.putfield 303, 3) := by decide +kernel
theorem dX12_begins_5 : decode cX12_begins 5 = .ok (.return_, 1) := by decide +kernel
theorem dX12_notes_0 : decode cX12_notes 0 = .ok (.aload_n 0, 1) := by decide +kernel
theorem dX12_notes_1 : decode cX12_notes 1 = .ok (.getfield 92, 3) := by decide +kernel
theorem dX12_notes_4 : decode cX12_notes 4 = .ok (.aload_n 0, 1) := by decide +kernel
theorem dX12_notes_5 : decode cX12_notes 5 = .ok (.getfield 303, 3) := by decide +kernel
theorem dX12_notes_8 : decode cX12_notes 8 = .ok (.iload_n 1, 1) := by decide +kernel
theorem dX12_notes_9 : decode cX12_notes 9 = .ok (.iastore, 1) := by decide +kernel
theorem dX12_notes_10 : decode cX12_notes 10 = .ok (.aload_n 0, 1) := by decide +kernel
theorem dX12_notes_11 : decode cX12_notes 11 = .ok (.getfield 95, 3) := by decide +kernel
theorem dX12_notes_14 : decode cX12_notes 14 = .ok (.aload_n 0, 1) := by decide +kernel
theorem dX12_notes_15 : decode cX12_notes 15 = .ok (.getfield 303, 3) := by decide +kernel
theorem dX12_notes_18 : decode cX12_notes 18 = .ok (.aload_n 0, 1) := by decide +kernel
theorem dX12_notes_19 : decode cX12_notes 19 = .ok (.getfield 73, 3) := by decide +kernel
theorem dX12_notes_22 : decode cX12_notes 22 = .ok (.iload_n 1, 1) := by decide +kernel
theorem dX12_notes_23 : decode cX12_notes 23 = .ok (.iaload, 1) := by decide +kernel
theorem dX12_notes_24 : decode cX12_notes 24 = .ok (.iastore, 1) := by decide +kernel
theorem dX12_notes_25 : decode cX12_notes 25 = .ok (.aload_n 0, 1) := by decide +kernel
theorem dX12_notes_26 : decode cX12_notes 26 = .ok (.getfield 98, 3) := by decide +kernel
theorem dX12_notes_29 : decode cX12_notes 29 = .ok (.aload_n 0, 1) := by decide +kernel
theorem dX12_notes_30 : decode cX12_notes 30 = .ok (.getfield 303, 3) := by decide +kernel
theorem dX12_notes_33 : decode cX12_notes 33 = .ok (.aload_n 0, 1) := by decide +kernel
theorem dX12_notes_34 : decode cX12_notes 34 = .ok (.getfield 76, 3) := by decide +kernel
theorem dX12_notes_37 : decode cX12_notes 37 = .ok (.iload_n 1, 1) := by decide +kernel
theorem dX12_notes_38 : decode cX12_notes 38 = .ok (.laload, 1) := by decide +kernel
theorem dX12_notes_39 : decode cX12_notes 39 = .ok (.lastore, 1) := by decide +kernel
theorem dX12_notes_40 : decode cX12_notes 40 = .ok (.aload_n 0, 1) := by decide +kernel
theorem dX12_notes_41 : decode cX12_notes 41 = .ok (.dup, 1) := by decide +kernel
theorem dX12_notes_42 : decode cX12_notes 42 = .ok (.getfield 303, 3) := by decide +kernel
theorem dX12_notes_45 : decode cX12_notes 45 = .ok (.iconst 1, 1) := by decide +kernel
theorem dX12_notes_46 : decode cX12_notes 46 = .ok (.iadd, 1) := by decide +kernel
theorem dX12_notes_47 : decode cX12_notes 47 = .ok (.putfield 303, 3) := by decide +kernel
theorem dX12_notes_50 : decode cX12_notes 50 = .ok (.return_, 1) := by decide +kernel
theorem dX12_moveAct_0 : decode cX12_moveAct 0 = .ok (.aload_n 0, 1) := by decide +kernel
theorem dX12_moveAct_1 : decode cX12_moveAct 1 = .ok (.getfield 116, 3) := by decide +kernel
theorem dX12_moveAct_4 : decode cX12_moveAct 4 = .ok (.iload_n 2, 1) := by decide +kernel
theorem dX12_moveAct_5 : decode cX12_moveAct 5 = .ok (.aload_n 0, 1) := by decide +kernel
theorem dX12_moveAct_6 : decode cX12_moveAct 6 = .ok (.getfield 116, 3) := by decide +kernel
theorem dX12_moveAct_9 : decode cX12_moveAct 9 = .ok (.iload_n 1, 1) := by decide +kernel
theorem dX12_moveAct_10 : decode cX12_moveAct 10 = .ok (.iaload, 1) := by decide +kernel
theorem dX12_moveAct_11 : decode cX12_moveAct 11 = .ok (.iastore, 1) := by decide +kernel
theorem dX12_moveAct_12 : decode cX12_moveAct 12 = .ok (.iconst 0, 1) := by decide +kernel
theorem dX12_moveAct_13 : decode cX12_moveAct 13 = .ok (.istore_n 3, 1) := by decide +kernel
theorem dX12_moveAct_14 : decode cX12_moveAct 14 = .ok (.iload_n 3, 1) := by decide +kernel
theorem dX12_moveAct_15 : decode cX12_moveAct 15 = .ok (.bipush 64, 2) := by decide +kernel
theorem dX12_moveAct_17 : decode cX12_moveAct 17 = .ok (.if_icmp .ge 95, 3) := by decide +kernel
theorem dX12_moveAct_20 : decode cX12_moveAct 20 = .ok (.bipush 64, 2) := by decide +kernel
theorem dX12_moveAct_22 : decode cX12_moveAct 22 = .ok (.iload_n 1, 1) := by decide +kernel
theorem dX12_moveAct_23 : decode cX12_moveAct 23 = .ok (.imul, 1) := by decide +kernel
theorem dX12_moveAct_24 : decode cX12_moveAct 24 = .ok (.iload_n 3, 1) := by decide +kernel
theorem dX12_moveAct_25 : decode cX12_moveAct 25 = .ok (.iadd, 1) := by decide +kernel
theorem dX12_moveAct_26 : decode cX12_moveAct 26 = .ok (.istore 4, 2) := by decide +kernel
theorem dX12_moveAct_28 : decode cX12_moveAct 28 = .ok (.bipush 64, 2) := by decide +kernel
theorem dX12_moveAct_30 : decode cX12_moveAct 30 = .ok (.iload_n 2, 1) := by decide +kernel
theorem dX12_moveAct_31 : decode cX12_moveAct 31 = .ok (.imul, 1) := by decide +kernel
theorem dX12_moveAct_32 : decode cX12_moveAct 32 = .ok (.iload_n 3, 1) := by decide +kernel
theorem dX12_moveAct_33 : decode cX12_moveAct 33 = .ok (.iadd, 1) := by decide +kernel
theorem dX12_moveAct_34 : decode cX12_moveAct 34 = .ok (.istore 5, 2) := by decide +kernel
theorem dX12_moveAct_36 : decode cX12_moveAct 36 = .ok (.aload_n 0, 1) := by decide +kernel
theorem dX12_moveAct_37 : decode cX12_moveAct 37 = .ok (.getfield 101, 3) := by decide +kernel
theorem dX12_moveAct_40 : decode cX12_moveAct 40 = .ok (.iload 5, 2) := by decide +kernel
theorem dX12_moveAct_42 : decode cX12_moveAct 42 = .ok (.aload_n 0, 1) := by decide +kernel
theorem dX12_moveAct_43 : decode cX12_moveAct 43 = .ok (.getfield 101, 3) := by decide +kernel
theorem dX12_moveAct_46 : decode cX12_moveAct 46 = .ok (.iload 4, 2) := by decide +kernel
theorem dX12_moveAct_48 : decode cX12_moveAct 48 = .ok (.iaload, 1) := by decide +kernel
theorem dX12_moveAct_49 : decode cX12_moveAct 49 = .ok (.iastore, 1) := by decide +kernel
theorem dX12_moveAct_50 : decode cX12_moveAct 50 = .ok (.aload_n 0, 1) := by decide +kernel
theorem dX12_moveAct_51 : decode cX12_moveAct 51 = .ok (.getfield 104, 3) := by decide +kernel
theorem dX12_moveAct_54 : decode cX12_moveAct 54 = .ok (.iload 5, 2) := by decide +kernel
theorem dX12_moveAct_56 : decode cX12_moveAct 56 = .ok (.aload_n 0, 1) := by decide +kernel
theorem dX12_moveAct_57 : decode cX12_moveAct 57 = .ok (.getfield 104, 3) := by decide +kernel
theorem dX12_moveAct_60 : decode cX12_moveAct 60 = .ok (.iload 4, 2) := by decide +kernel
theorem dX12_moveAct_62 : decode cX12_moveAct 62 = .ok (.iaload, 1) := by decide +kernel
theorem dX12_moveAct_63 : decode cX12_moveAct 63 = .ok (.iastore, 1) := by decide +kernel
theorem dX12_moveAct_64 : decode cX12_moveAct 64 = .ok (.aload_n 0, 1) := by decide +kernel
theorem dX12_moveAct_65 : decode cX12_moveAct 65 = .ok (.getfield 107, 3) := by decide +kernel
theorem dX12_moveAct_68 : decode cX12_moveAct 68 = .ok (.iload 5, 2) := by decide +kernel
theorem dX12_moveAct_70 : decode cX12_moveAct 70 = .ok (.aload_n 0, 1) := by decide +kernel
theorem dX12_moveAct_71 : decode cX12_moveAct 71 = .ok (.getfield 107, 3) := by decide +kernel
theorem dX12_moveAct_74 : decode cX12_moveAct 74 = .ok (.iload 4, 2) := by decide +kernel
theorem dX12_moveAct_76 : decode cX12_moveAct 76 = .ok (.laload, 1) := by decide +kernel
theorem dX12_moveAct_77 : decode cX12_moveAct 77 = .ok (.lastore, 1) := by decide +kernel
theorem dX12_moveAct_78 : decode cX12_moveAct 78 = .ok (.aload_n 0, 1) := by decide +kernel
theorem dX12_moveAct_79 : decode cX12_moveAct 79 = .ok (.getfield 110, 3) := by decide +kernel
theorem dX12_moveAct_82 : decode cX12_moveAct 82 = .ok (.iload 5, 2) := by decide +kernel
theorem dX12_moveAct_84 : decode cX12_moveAct 84 = .ok (.aload_n 0, 1) := by decide +kernel
theorem dX12_moveAct_85 : decode cX12_moveAct 85 = .ok (.getfield 110, 3) := by decide +kernel
theorem dX12_moveAct_88 : decode cX12_moveAct 88 = .ok (.iload 4, 2) := by decide +kernel
theorem dX12_moveAct_90 : decode cX12_moveAct 90 = .ok (.iaload, 1) := by decide +kernel
theorem dX12_moveAct_91 : decode cX12_moveAct 91 = .ok (.iastore, 1) := by decide +kernel
theorem dX12_moveAct_92 : decode cX12_moveAct 92 = .ok (.aload_n 0, 1) := by decide +kernel
theorem dX12_moveAct_93 : decode cX12_moveAct 93 = .ok (.getfield 113, 3) := by decide +kernel
theorem dX12_moveAct_96 : decode cX12_moveAct 96 = .ok (.iload 5, 2) := by decide +kernel
theorem dX12_moveAct_98 : decode cX12_moveAct 98 = .ok (.aload_n 0, 1) := by decide +kernel
theorem dX12_moveAct_99 : decode cX12_moveAct 99 = .ok (.getfield 113, 3) := by decide +kernel
theorem dX12_moveAct_102 : decode cX12_moveAct 102 = .ok (.iload 4, 2) := by decide +kernel
theorem dX12_moveAct_104 : decode cX12_moveAct 104 = .ok (.laload, 1) := by decide +kernel
theorem dX12_moveAct_105 : decode cX12_moveAct 105 = .ok (.lastore, 1) := by decide +kernel
theorem dX12_moveAct_106 : decode cX12_moveAct 106 = .ok (.iinc 3 1, 3) := by decide +kernel
theorem dX12_moveAct_109 : decode cX12_moveAct 109 = .ok (.goto (-95), 3) := by decide +kernel
theorem dX12_moveAct_112 : decode cX12_moveAct 112 = .ok (.return_, 1) := by decide +kernel
theorem dX12_keepsAct_0 : decode cX12_keepsAct 0 = .ok (.aload_n 0, 1) := by decide +kernel
theorem dX12_keepsAct_1 : decode cX12_keepsAct 1 = .ok (.getfield 303, 3) := by decide +kernel
theorem dX12_keepsAct_4 : decode cX12_keepsAct 4 = .ok (.ifCond .ne 4, 3) := by decide +kernel
theorem dX12_keepsAct_7 : decode cX12_keepsAct 7 = .ok (.return_, 1) := by decide +kernel
theorem dX12_keepsAct_8 : decode cX12_keepsAct 8 = .ok (.aload_n 0, 1) := by decide +kernel
theorem dX12_keepsAct_9 : decode cX12_keepsAct 9 = .ok (.aload_n 0, 1) := by decide +kernel
theorem dX12_keepsAct_10 : decode cX12_keepsAct 10 = .ok (.getfield 306, 3) := by decide +kernel
theorem dX12_keepsAct_13 : decode cX12_keepsAct 13 = .ok (.putfield 309, 3) := by decide +kernel
theorem dX12_keepsAct_16 : decode cX12_keepsAct 16 = .ok (.aload_n 0, 1) := by decide +kernel
theorem dX12_keepsAct_17 : decode cX12_keepsAct 17 = .ok (.getfield 309, 3) := by decide +kernel
theorem dX12_keepsAct_20 : decode cX12_keepsAct 20 = .ok (.bipush 24, 2) := by decide +kernel
theorem dX12_keepsAct_22 : decode cX12_keepsAct 22 = .ok (.if_icmp .ne 35, 3) := by decide +kernel
theorem dX12_keepsAct_25 : decode cX12_keepsAct 25 = .ok (.iconst 1, 1) := by decide +kernel
theorem dX12_keepsAct_26 : decode cX12_keepsAct 26 = .ok (.istore_n 1, 1) := by decide +kernel
theorem dX12_keepsAct_27 : decode cX12_keepsAct 27 = .ok (.iload_n 1, 1) := by decide +kernel
theorem dX12_keepsAct_28 : decode cX12_keepsAct 28 = .ok (.bipush 24, 2) := by decide +kernel
theorem dX12_keepsAct_30 : decode cX12_keepsAct 30 = .ok (.if_icmp .ge 17, 3) := by decide +kernel
theorem dX12_keepsAct_33 : decode cX12_keepsAct 33 = .ok (.aload_n 0, 1) := by decide +kernel
theorem dX12_keepsAct_34 : decode cX12_keepsAct 34 = .ok (.iload_n 1, 1) := by decide +kernel
theorem dX12_keepsAct_35 : decode cX12_keepsAct 35 = .ok (.iload_n 1, 1) := by decide +kernel
theorem dX12_keepsAct_36 : decode cX12_keepsAct 36 = .ok (.iconst 1, 1) := by decide +kernel
theorem dX12_keepsAct_37 : decode cX12_keepsAct 37 = .ok (.isub, 1) := by decide +kernel
theorem dX12_keepsAct_38 : decode cX12_keepsAct 38 = .ok (.invokevirtual 312, 3) := by decide +kernel
theorem dX12_keepsAct_41 : decode cX12_keepsAct 41 = .ok (.iinc 1 1, 3) := by decide +kernel
theorem dX12_keepsAct_44 : decode cX12_keepsAct 44 = .ok (.goto (-17), 3) := by decide +kernel
theorem dX12_keepsAct_47 : decode cX12_keepsAct 47 = .ok (.aload_n 0, 1) := by decide +kernel
theorem dX12_keepsAct_48 : decode cX12_keepsAct 48 = .ok (.dup, 1) := by decide +kernel
theorem dX12_keepsAct_49 : decode cX12_keepsAct 49 = .ok (.getfield 309, 3) := by decide +kernel
theorem dX12_keepsAct_52 : decode cX12_keepsAct 52 = .ok (.iconst 1, 1) := by decide +kernel
theorem dX12_keepsAct_53 : decode cX12_keepsAct 53 = .ok (.isub, 1) := by decide +kernel
theorem dX12_keepsAct_54 : decode cX12_keepsAct 54 = .ok (.putfield 309, 3) := by decide +kernel
theorem dX12_keepsAct_57 : decode cX12_keepsAct 57 = .ok (.aload_n 0, 1) := by decide +kernel
theorem dX12_keepsAct_58 : decode cX12_keepsAct 58 = .ok (.getfield 116, 3) := by decide +kernel
theorem dX12_keepsAct_61 : decode cX12_keepsAct 61 = .ok (.aload_n 0, 1) := by decide +kernel
theorem dX12_keepsAct_62 : decode cX12_keepsAct 62 = .ok (.getfield 309, 3) := by decide +kernel
theorem dX12_keepsAct_65 : decode cX12_keepsAct 65 = .ok (.aload_n 0, 1) := by decide +kernel
theorem dX12_keepsAct_66 : decode cX12_keepsAct 66 = .ok (.getfield 303, 3) := by decide +kernel
theorem dX12_keepsAct_69 : decode cX12_keepsAct 69 = .ok (.iastore, 1) := by decide +kernel
theorem dX12_keepsAct_70 : decode cX12_keepsAct 70 = .ok (.iconst 0, 1) := by decide +kernel
theorem dX12_keepsAct_71 : decode cX12_keepsAct 71 = .ok (.istore_n 1, 1) := by decide +kernel
theorem dX12_keepsAct_72 : decode cX12_keepsAct 72 = .ok (.iload_n 1, 1) := by decide +kernel
theorem dX12_keepsAct_73 : decode cX12_keepsAct 73 = .ok (.aload_n 0, 1) := by decide +kernel
theorem dX12_keepsAct_74 : decode cX12_keepsAct 74 = .ok (.getfield 303, 3) := by decide +kernel
theorem dX12_keepsAct_77 : decode cX12_keepsAct 77 = .ok (.if_icmp .ge 168, 3) := by decide +kernel
theorem dX12_keepsAct_80 : decode cX12_keepsAct 80 = .ok (.bipush 64, 2) := by decide +kernel
theorem dX12_keepsAct_82 : decode cX12_keepsAct 82 = .ok (.aload_n 0, 1) := by decide +kernel
theorem dX12_keepsAct_83 : decode cX12_keepsAct 83 = .ok (.getfield 309, 3) := by decide +kernel
theorem dX12_keepsAct_86 : decode cX12_keepsAct 86 = .ok (.imul, 1) := by decide +kernel
theorem dX12_keepsAct_87 : decode cX12_keepsAct 87 = .ok (.iload_n 1, 1) := by decide +kernel
theorem dX12_keepsAct_88 : decode cX12_keepsAct 88 = .ok (.iadd, 1) := by decide +kernel
theorem dX12_keepsAct_89 : decode cX12_keepsAct 89 = .ok (.istore_n 2, 1) := by decide +kernel
theorem dX12_keepsAct_90 : decode cX12_keepsAct 90 = .ok (.aload_n 0, 1) := by decide +kernel
theorem dX12_keepsAct_91 : decode cX12_keepsAct 91 = .ok (.getfield 92, 3) := by decide +kernel
theorem dX12_keepsAct_94 : decode cX12_keepsAct 94 = .ok (.iload_n 1, 1) := by decide +kernel
theorem dX12_keepsAct_95 : decode cX12_keepsAct 95 = .ok (.iaload, 1) := by decide +kernel
theorem dX12_keepsAct_96 : decode cX12_keepsAct 96 = .ok (.istore_n 3, 1) := by decide +kernel
theorem dX12_keepsAct_97 : decode cX12_keepsAct 97 = .ok (.aload_n 0, 1) := by decide +kernel
theorem dX12_keepsAct_98 : decode cX12_keepsAct 98 = .ok (.getfield 101, 3) := by decide +kernel
theorem dX12_keepsAct_101 : decode cX12_keepsAct 101 = .ok (.iload_n 2, 1) := by decide +kernel
theorem dX12_keepsAct_102 : decode cX12_keepsAct 102 = .ok (.iload_n 3, 1) := by decide +kernel
theorem dX12_keepsAct_103 : decode cX12_keepsAct 103 = .ok (.iastore, 1) := by decide +kernel
theorem dX12_keepsAct_104 : decode cX12_keepsAct 104 = .ok (.aload_n 0, 1) := by decide +kernel
theorem dX12_keepsAct_105 : decode cX12_keepsAct 105 = .ok (.getfield 104, 3) := by decide +kernel
theorem dX12_keepsAct_108 : decode cX12_keepsAct 108 = .ok (.iload_n 2, 1) := by decide +kernel
theorem dX12_keepsAct_109 : decode cX12_keepsAct 109 = .ok (.aload_n 0, 1) := by decide +kernel
theorem dX12_keepsAct_110 : decode cX12_keepsAct 110 = .ok (.getfield 95, 3) := by decide +kernel
theorem dX12_keepsAct_113 : decode cX12_keepsAct 113 = .ok (.iload_n 1, 1) := by decide +kernel
theorem dX12_keepsAct_114 : decode cX12_keepsAct 114 = .ok (.iaload, 1) := by decide +kernel
theorem dX12_keepsAct_115 : decode cX12_keepsAct 115 = .ok (.iastore, 1) := by decide +kernel
theorem dX12_keepsAct_116 : decode cX12_keepsAct 116 = .ok (.aload_n 0, 1) := by decide +kernel
theorem dX12_keepsAct_117 : decode cX12_keepsAct 117 = .ok (.getfield 107, 3) := by decide +kernel
theorem dX12_keepsAct_120 : decode cX12_keepsAct 120 = .ok (.iload_n 2, 1) := by decide +kernel
theorem dX12_keepsAct_121 : decode cX12_keepsAct 121 = .ok (.aload_n 0, 1) := by decide +kernel
theorem dX12_keepsAct_122 : decode cX12_keepsAct 122 = .ok (.getfield 98, 3) := by decide +kernel
theorem dX12_keepsAct_125 : decode cX12_keepsAct 125 = .ok (.iload_n 1, 1) := by decide +kernel
theorem dX12_keepsAct_126 : decode cX12_keepsAct 126 = .ok (.laload, 1) := by decide +kernel
theorem dX12_keepsAct_127 : decode cX12_keepsAct 127 = .ok (.lastore, 1) := by decide +kernel
theorem dX12_keepsAct_128 : decode cX12_keepsAct 128 = .ok (.iload_n 1, 1) := by decide +kernel
theorem dX12_keepsAct_129 : decode cX12_keepsAct 129 = .ok (.iconst 1, 1) := by decide +kernel
theorem dX12_keepsAct_130 : decode cX12_keepsAct 130 = .ok (.iadd, 1) := by decide +kernel
theorem dX12_keepsAct_131 : decode cX12_keepsAct 131 = .ok (.istore 4, 2) := by decide +kernel
theorem dX12_keepsAct_133 : decode cX12_keepsAct 133 = .ok (.iload 4, 2) := by decide +kernel
theorem dX12_keepsAct_135 : decode cX12_keepsAct 135 = .ok (.aload_n 0, 1) := by decide +kernel
theorem dX12_keepsAct_136 : decode cX12_keepsAct 136 = .ok (.getfield 303, 3) := by decide +kernel
theorem dX12_keepsAct_139 : decode cX12_keepsAct 139 = .ok (.if_icmp .ge 20, 3) := by decide +kernel
theorem dX12_keepsAct_142 : decode cX12_keepsAct 142 = .ok (.aload_n 0, 1) := by decide +kernel
theorem dX12_keepsAct_143 : decode cX12_keepsAct 143 = .ok (.getfield 92, 3) := by decide +kernel
theorem dX12_keepsAct_146 : decode cX12_keepsAct 146 = .ok (.iload 4, 2) := by decide +kernel
theorem dX12_keepsAct_148 : decode cX12_keepsAct 148 = .ok (.iaload, 1) := by decide +kernel
theorem dX12_keepsAct_149 : decode cX12_keepsAct 149 = .ok (.iload_n 3, 1) := by decide +kernel
theorem dX12_keepsAct_150 : decode cX12_keepsAct 150 = .ok (.if_icmp .eq 9, 3) := by decide +kernel
theorem dX12_keepsAct_153 : decode cX12_keepsAct 153 = .ok (.iinc 4 1, 3) := by decide +kernel
theorem dX12_keepsAct_156 : decode cX12_keepsAct 156 = .ok (.goto (-23), 3) := by decide +kernel
theorem dX12_keepsAct_159 : decode cX12_keepsAct 159 = .ok (.aload_n 0, 1) := by decide +kernel
theorem dX12_keepsAct_160 : decode cX12_keepsAct 160 = .ok (.getfield 110, 3) := by decide +kernel
theorem dX12_keepsAct_163 : decode cX12_keepsAct 163 = .ok (.iload_n 2, 1) := by decide +kernel
theorem dX12_keepsAct_164 : decode cX12_keepsAct 164 = .ok (.iload 4, 2) := by decide +kernel
theorem dX12_keepsAct_166 : decode cX12_keepsAct 166 = .ok (.aload_n 0, 1) := by decide +kernel
theorem dX12_keepsAct_167 : decode cX12_keepsAct 167 = .ok (.getfield 303, 3) := by decide +kernel
theorem dX12_keepsAct_170 : decode cX12_keepsAct 170 = .ok (.if_icmp .ge 13, 3) := by decide +kernel
theorem dX12_keepsAct_173 : decode cX12_keepsAct 173 = .ok (.aload_n 0, 1) := by decide +kernel
theorem dX12_keepsAct_174 : decode cX12_keepsAct 174 = .ok (.getfield 95, 3) := by decide +kernel
theorem dX12_keepsAct_177 : decode cX12_keepsAct 177 = .ok (.iload 4, 2) := by decide +kernel
theorem dX12_keepsAct_179 : decode cX12_keepsAct 179 = .ok (.iaload, 1) := by decide +kernel
theorem dX12_keepsAct_180 : decode cX12_keepsAct 180 = .ok (.goto 9, 3) := by decide +kernel
theorem dX12_keepsAct_183 : decode cX12_keepsAct 183 = .ok (.aload_n 0, 1) := by decide +kernel
theorem dX12_keepsAct_184 : decode cX12_keepsAct 184 = .ok (.getfield 73, 3) := by decide +kernel
theorem dX12_keepsAct_187 : decode cX12_keepsAct 187 = .ok (.iload_n 3, 1) := by decide +kernel
theorem dX12_keepsAct_188 : decode cX12_keepsAct 188 = .ok (.iaload, 1) := by decide +kernel
theorem dX12_keepsAct_189 : decode cX12_keepsAct 189 = .ok (.iastore, 1) := by decide +kernel
theorem dX12_keepsAct_190 : decode cX12_keepsAct 190 = .ok (.aload_n 0, 1) := by decide +kernel
theorem dX12_keepsAct_191 : decode cX12_keepsAct 191 = .ok (.getfield 113, 3) := by decide +kernel
theorem dX12_keepsAct_194 : decode cX12_keepsAct 194 = .ok (.iload_n 2, 1) := by decide +kernel
theorem dX12_keepsAct_195 : decode cX12_keepsAct 195 = .ok (.iload 4, 2) := by decide +kernel
theorem dX12_keepsAct_197 : decode cX12_keepsAct 197 = .ok (.aload_n 0, 1) := by decide +kernel
theorem dX12_keepsAct_198 : decode cX12_keepsAct 198 = .ok (.getfield 303, 3) := by decide +kernel
theorem dX12_keepsAct_201 : decode cX12_keepsAct 201 = .ok (.if_icmp .ge 13, 3) := by decide +kernel
theorem dX12_keepsAct_204 : decode cX12_keepsAct 204 = .ok (.aload_n 0, 1) := by decide +kernel
theorem dX12_keepsAct_205 : decode cX12_keepsAct 205 = .ok (.getfield 98, 3) := by decide +kernel
theorem dX12_keepsAct_208 : decode cX12_keepsAct 208 = .ok (.iload 4, 2) := by decide +kernel
theorem dX12_keepsAct_210 : decode cX12_keepsAct 210 = .ok (.laload, 1) := by decide +kernel
theorem dX12_keepsAct_211 : decode cX12_keepsAct 211 = .ok (.goto 9, 3) := by decide +kernel
theorem dX12_keepsAct_214 : decode cX12_keepsAct 214 = .ok (.aload_n 0, 1) := by decide +kernel
theorem dX12_keepsAct_215 : decode cX12_keepsAct 215 = .ok (.getfield 76, 3) := by decide +kernel
theorem dX12_keepsAct_218 : decode cX12_keepsAct 218 = .ok (.iload_n 3, 1) := by decide +kernel
theorem dX12_keepsAct_219 : decode cX12_keepsAct 219 = .ok (.laload, 1) := by decide +kernel
theorem dX12_keepsAct_220 : decode cX12_keepsAct 220 = .ok (.lastore, 1) := by decide +kernel
theorem dX12_keepsAct_221 : decode cX12_keepsAct 221 = .ok (.aload_n 0, 1) := by decide +kernel
theorem dX12_keepsAct_222 : decode cX12_keepsAct 222 = .ok (.getfield 70, 3) := by decide +kernel
theorem dX12_keepsAct_225 : decode cX12_keepsAct 225 = .ok (.iload_n 3, 1) := by decide +kernel
theorem dX12_keepsAct_226 : decode cX12_keepsAct 226 = .ok (.bipush 32, 2) := by decide +kernel
theorem dX12_keepsAct_228 : decode cX12_keepsAct 228 = .ok (.idiv, 1) := by decide +kernel
theorem dX12_keepsAct_229 : decode cX12_keepsAct 229 = .ok (.dup2, 1) := by decide +kernel
theorem dX12_keepsAct_230 : decode cX12_keepsAct 230 = .ok (.iaload, 1) := by decide +kernel
theorem dX12_keepsAct_231 : decode cX12_keepsAct 231 = .ok (.iconst 1, 1) := by decide +kernel
theorem dX12_keepsAct_232 : decode cX12_keepsAct 232 = .ok (.iload_n 3, 1) := by decide +kernel
theorem dX12_keepsAct_233 : decode cX12_keepsAct 233 = .ok (.bipush 32, 2) := by decide +kernel
theorem dX12_keepsAct_235 : decode cX12_keepsAct 235 = .ok (.irem, 1) := by decide +kernel
theorem dX12_keepsAct_236 : decode cX12_keepsAct 236 = .ok (.ishl, 1) := by decide +kernel
theorem dX12_keepsAct_237 : decode cX12_keepsAct 237 = .ok (.ior, 1) := by decide +kernel
theorem dX12_keepsAct_238 : decode cX12_keepsAct 238 = .ok (.iastore, 1) := by decide +kernel
theorem dX12_keepsAct_239 : decode cX12_keepsAct 239 = .ok (.iinc 1 1, 3) := by decide +kernel
theorem dX12_keepsAct_242 : decode cX12_keepsAct 242 = .ok (.goto (-170), 3) := by decide +kernel
theorem dX12_keepsAct_245 : decode cX12_keepsAct 245 = .ok (.aload_n 0, 1) := by decide +kernel
theorem dX12_keepsAct_246 : decode cX12_keepsAct 246 = .ok (.dup, 1) := by decide +kernel
theorem dX12_keepsAct_247 : decode cX12_keepsAct 247 = .ok (.getfield 309, 3) := by decide +kernel
theorem dX12_keepsAct_250 : decode cX12_keepsAct 250 = .ok (.iconst 1, 1) := by decide +kernel
theorem dX12_keepsAct_251 : decode cX12_keepsAct 251 = .ok (.iadd, 1) := by decide +kernel
theorem dX12_keepsAct_252 : decode cX12_keepsAct 252 = .ok (.putfield 309, 3) := by decide +kernel
theorem dX12_keepsAct_255 : decode cX12_keepsAct 255 = .ok (.aload_n 0, 1) := by decide +kernel
theorem dX12_keepsAct_256 : decode cX12_keepsAct 256 = .ok (.aload_n 0, 1) := by decide +kernel
theorem dX12_keepsAct_257 : decode cX12_keepsAct 257 = .ok (.getfield 309, 3) := by decide +kernel
theorem dX12_keepsAct_260 : decode cX12_keepsAct 260 = .ok (.putfield 306, 3) := by decide +kernel
theorem dX12_keepsAct_263 : decode cX12_keepsAct 263 = .ok (.return_, 1) := by decide +kernel
theorem dX12_putsBack_0 : decode cX12_putsBack 0 = .ok (.aload_n 0, 1) := by decide +kernel
theorem dX12_putsBack_1 : decode cX12_putsBack 1 = .ok (.getfield 303, 3) := by decide +kernel
theorem dX12_putsBack_4 : decode cX12_putsBack 4 = .ok (.iconst 1, 1) := by decide +kernel
theorem dX12_putsBack_5 : decode cX12_putsBack 5 = .ok (.isub, 1) := by decide +kernel
theorem dX12_putsBack_6 : decode cX12_putsBack 6 = .ok (.istore_n 1, 1) := by decide +kernel
theorem dX12_putsBack_7 : decode cX12_putsBack 7 = .ok (.iload_n 1, 1) := by decide +kernel
theorem dX12_putsBack_8 : decode cX12_putsBack 8 = .ok (.ifCond .lt 43, 3) := by decide +kernel
theorem dX12_putsBack_11 : decode cX12_putsBack 11 = .ok (.aload_n 0, 1) := by decide +kernel
theorem dX12_putsBack_12 : decode cX12_putsBack 12 = .ok (.getfield 73, 3) := by decide +kernel
theorem dX12_putsBack_15 : decode cX12_putsBack 15 = .ok (.aload_n 0, 1) := by decide +kernel
theorem dX12_putsBack_16 : decode cX12_putsBack 16 = .ok (.getfield 92, 3) := by decide +kernel
theorem dX12_putsBack_19 : decode cX12_putsBack 19 = .ok (.iload_n 1, 1) := by decide +kernel
theorem dX12_putsBack_20 : decode cX12_putsBack 20 = .ok (.iaload, 1) := by decide +kernel
theorem dX12_putsBack_21 : decode cX12_putsBack 21 = .ok (.aload_n 0, 1) := by decide +kernel
theorem dX12_putsBack_22 : decode cX12_putsBack 22 = .ok (.getfield 95, 3) := by decide +kernel
theorem dX12_putsBack_25 : decode cX12_putsBack 25 = .ok (.iload_n 1, 1) := by decide +kernel
theorem dX12_putsBack_26 : decode cX12_putsBack 26 = .ok (.iaload, 1) := by decide +kernel
theorem dX12_putsBack_27 : decode cX12_putsBack 27 = .ok (.iastore, 1) := by decide +kernel
theorem dX12_putsBack_28 : decode cX12_putsBack 28 = .ok (.aload_n 0, 1) := by decide +kernel
theorem dX12_putsBack_29 : decode cX12_putsBack 29 = .ok (.getfield 76, 3) := by decide +kernel
theorem dX12_putsBack_32 : decode cX12_putsBack 32 = .ok (.aload_n 0, 1) := by decide +kernel
theorem dX12_putsBack_33 : decode cX12_putsBack 33 = .ok (.getfield 92, 3) := by decide +kernel
theorem dX12_putsBack_36 : decode cX12_putsBack 36 = .ok (.iload_n 1, 1) := by decide +kernel
theorem dX12_putsBack_37 : decode cX12_putsBack 37 = .ok (.iaload, 1) := by decide +kernel
theorem dX12_putsBack_38 : decode cX12_putsBack 38 = .ok (.aload_n 0, 1) := by decide +kernel
theorem dX12_putsBack_39 : decode cX12_putsBack 39 = .ok (.getfield 98, 3) := by decide +kernel
theorem dX12_putsBack_42 : decode cX12_putsBack 42 = .ok (.iload_n 1, 1) := by decide +kernel
theorem dX12_putsBack_43 : decode cX12_putsBack 43 = .ok (.laload, 1) := by decide +kernel
theorem dX12_putsBack_44 : decode cX12_putsBack 44 = .ok (.lastore, 1) := by decide +kernel
theorem dX12_putsBack_45 : decode cX12_putsBack 45 = .ok (.iinc 1 (-1), 3) := by decide +kernel
theorem dX12_putsBack_48 : decode cX12_putsBack 48 = .ok (.goto (-41), 3) := by decide +kernel
theorem dX12_putsBack_51 : decode cX12_putsBack 51 = .ok (.aload_n 0, 1) := by decide +kernel
theorem dX12_putsBack_52 : decode cX12_putsBack 52 = .ok (.iconst 0, 1) := by decide +kernel
theorem dX12_putsBack_53 : decode cX12_putsBack 53 = .ok (.putfield 303, 3) := by decide +kernel
theorem dX12_putsBack_56 : decode cX12_putsBack 56 = .ok (.return_, 1) := by decide +kernel
theorem dX12_forgets_0 : decode cX12_forgets 0 = .ok (.iconst 0, 1) := by decide +kernel
theorem dX12_forgets_1 : decode cX12_forgets 1 = .ok (.istore_n 2, 1) := by decide +kernel
theorem dX12_forgets_2 : decode cX12_forgets 2 = .ok (.iconst 0, 1) := by decide +kernel
theorem dX12_forgets_3 : decode cX12_forgets 3 = .ok (.istore_n 3, 1) := by decide +kernel
theorem dX12_forgets_4 : decode cX12_forgets 4 = .ok (.iconst 0, 1) := by decide +kernel
theorem dX12_forgets_5 : decode cX12_forgets 5 = .ok (.istore 4, 2) := by decide +kernel
theorem dX12_forgets_7 : decode cX12_forgets 7 = .ok (.iload 4, 2) := by decide +kernel
theorem dX12_forgets_9 : decode cX12_forgets 9 = .ok (.aload_n 0, 1) := by decide +kernel
theorem dX12_forgets_10 : decode cX12_forgets 10 = .ok (.getfield 309, 3) := by decide +kernel
theorem dX12_forgets_13 : decode cX12_forgets 13 = .ok (.if_icmp .ge 97, 3) := by decide +kernel
theorem dX12_forgets_16 : decode cX12_forgets 16 = .ok (.iconst 0, 1) := by decide +kernel
theorem dX12_forgets_17 : decode cX12_forgets 17 = .ok (.istore 5, 2) := by decide +kernel
theorem dX12_forgets_19 : decode cX12_forgets 19 = .ok (.iconst 0, 1) := by decide +kernel
theorem dX12_forgets_20 : decode cX12_forgets 20 = .ok (.istore 6, 2) := by decide +kernel
theorem dX12_forgets_22 : decode cX12_forgets 22 = .ok (.iload 6, 2) := by decide +kernel
theorem dX12_forgets_24 : decode cX12_forgets 24 = .ok (.aload_n 0, 1) := by decide +kernel
theorem dX12_forgets_25 : decode cX12_forgets 25 = .ok (.getfield 116, 3) := by decide +kernel
theorem dX12_forgets_28 : decode cX12_forgets 28 = .ok (.iload 4, 2) := by decide +kernel
theorem dX12_forgets_30 : decode cX12_forgets 30 = .ok (.iaload, 1) := by decide +kernel
theorem dX12_forgets_31 : decode cX12_forgets 31 = .ok (.if_icmp .ge 41, 3) := by decide +kernel
theorem dX12_forgets_34 : decode cX12_forgets 34 = .ok (.iload 5, 2) := by decide +kernel
theorem dX12_forgets_36 : decode cX12_forgets 36 = .ok (.ifCond .ne 23, 3) := by decide +kernel
theorem dX12_forgets_39 : decode cX12_forgets 39 = .ok (.aload_n 0, 1) := by decide +kernel
theorem dX12_forgets_40 : decode cX12_forgets 40 = .ok (.getfield 101, 3) := by decide +kernel
theorem dX12_forgets_43 : decode cX12_forgets 43 = .ok (.bipush 64, 2) := by decide +kernel
theorem dX12_forgets_45 : decode cX12_forgets 45 = .ok (.iload 4, 2) := by decide +kernel
theorem dX12_forgets_47 : decode cX12_forgets 47 = .ok (.imul, 1) := by decide +kernel
theorem dX12_forgets_48 : decode cX12_forgets 48 = .ok (.iload 6, 2) := by decide +kernel
theorem dX12_forgets_50 : decode cX12_forgets 50 = .ok (.iadd, 1) := by decide +kernel
theorem dX12_forgets_51 : decode cX12_forgets 51 = .ok (.iaload, 1) := by decide +kernel
theorem dX12_forgets_52 : decode cX12_forgets 52 = .ok (.bipush 32, 2) := by decide +kernel
theorem dX12_forgets_54 : decode cX12_forgets 54 = .ok (.idiv, 1) := by decide +kernel
theorem dX12_forgets_55 : decode cX12_forgets 55 = .ok (.iload_n 1, 1) := by decide +kernel
theorem dX12_forgets_56 : decode cX12_forgets 56 = .ok (.if_icmp .ne 7, 3) := by decide +kernel
theorem dX12_forgets_59 : decode cX12_forgets 59 = .ok (.iconst 1, 1) := by decide +kernel
theorem dX12_forgets_60 : decode cX12_forgets 60 = .ok (.goto 4, 3) := by decide +kernel
theorem dX12_forgets_63 : decode cX12_forgets 63 = .ok (.iconst 0, 1) := by decide +kernel
theorem dX12_forgets_64 : decode cX12_forgets 64 = .ok (.istore 5, 2) := by decide +kernel
theorem dX12_forgets_66 : decode cX12_forgets 66 = .ok (.iinc 6 1, 3) := by decide +kernel
theorem dX12_forgets_69 : decode cX12_forgets 69 = .ok (.goto (-47), 3) := by decide +kernel
theorem dX12_forgets_72 : decode cX12_forgets 72 = .ok (.iload 5, 2) := by decide +kernel
theorem dX12_forgets_74 : decode cX12_forgets 74 = .ok (.ifCond .ne 30, 3) := by decide +kernel
theorem dX12_forgets_77 : decode cX12_forgets 77 = .ok (.aload_n 0, 1) := by decide +kernel
theorem dX12_forgets_78 : decode cX12_forgets 78 = .ok (.iload 4, 2) := by decide +kernel
theorem dX12_forgets_80 : decode cX12_forgets 80 = .ok (.iload_n 2, 1) := by decide +kernel
theorem dX12_forgets_81 : decode cX12_forgets 81 = .ok (.invokevirtual 312, 3) := by decide +kernel
theorem dX12_forgets_84 : decode cX12_forgets 84 = .ok (.iinc 2 1, 3) := by decide +kernel
theorem dX12_forgets_87 : decode cX12_forgets 87 = .ok (.iload_n 3, 1) := by decide +kernel
theorem dX12_forgets_88 : decode cX12_forgets 88 = .ok (.iload 4, 2) := by decide +kernel
theorem dX12_forgets_90 : decode cX12_forgets 90 = .ok (.aload_n 0, 1) := by decide +kernel
theorem dX12_forgets_91 : decode cX12_forgets 91 = .ok (.getfield 306, 3) := by decide +kernel
theorem dX12_forgets_94 : decode cX12_forgets 94 = .ok (.if_icmp .ge 7, 3) := by decide +kernel
theorem dX12_forgets_97 : decode cX12_forgets 97 = .ok (.iconst 1, 1) := by decide +kernel
theorem dX12_forgets_98 : decode cX12_forgets 98 = .ok (.goto 4, 3) := by decide +kernel
theorem dX12_forgets_101 : decode cX12_forgets 101 = .ok (.iconst 0, 1) := by decide +kernel
theorem dX12_forgets_102 : decode cX12_forgets 102 = .ok (.iadd, 1) := by decide +kernel
theorem dX12_forgets_103 : decode cX12_forgets 103 = .ok (.istore_n 3, 1) := by decide +kernel
theorem dX12_forgets_104 : decode cX12_forgets 104 = .ok (.iinc 4 1, 3) := by decide +kernel
theorem dX12_forgets_107 : decode cX12_forgets 107 = .ok (.goto (-100), 3) := by decide +kernel
theorem dX12_forgets_110 : decode cX12_forgets 110 = .ok (.aload_n 0, 1) := by decide +kernel
theorem dX12_forgets_111 : decode cX12_forgets 111 = .ok (.iload_n 2, 1) := by decide +kernel
theorem dX12_forgets_112 : decode cX12_forgets 112 = .ok (.putfield 309, 3) := by decide +kernel
theorem dX12_forgets_115 : decode cX12_forgets 115 = .ok (.aload_n 0, 1) := by decide +kernel
theorem dX12_forgets_116 : decode cX12_forgets 116 = .ok (.iload_n 3, 1) := by decide +kernel
theorem dX12_forgets_117 : decode cX12_forgets 117 = .ok (.putfield 306, 3) := by decide +kernel
theorem dX12_forgets_120 : decode cX12_forgets 120 = .ok (.return_, 1) := by decide +kernel
theorem dX12_undo_0 : decode cX12_undo 0 = .ok (.aload_n 0, 1) := by decide +kernel
theorem dX12_undo_1 : decode cX12_undo 1 = .ok (.getfield 306, 3) := by decide +kernel
theorem dX12_undo_4 : decode cX12_undo 4 = .ok (.ifCond .ne 6, 3) := by decide +kernel
theorem dX12_undo_7 : decode cX12_undo 7 = .ok (.bipush (-3), 2) := by decide +kernel
theorem dX12_undo_9 : decode cX12_undo 9 = .ok (.ireturn, 1) := by decide +kernel
theorem dX12_undo_10 : decode cX12_undo 10 = .ok (.aload_n 0, 1) := by decide +kernel
theorem dX12_undo_11 : decode cX12_undo 11 = .ok (.dup, 1) := by decide +kernel
theorem dX12_undo_12 : decode cX12_undo 12 = .ok (.getfield 306, 3) := by decide +kernel
theorem dX12_undo_15 : decode cX12_undo 15 = .ok (.iconst 1, 1) := by decide +kernel
theorem dX12_undo_16 : decode cX12_undo 16 = .ok (.isub, 1) := by decide +kernel
theorem dX12_undo_17 : decode cX12_undo 17 = .ok (.putfield 306, 3) := by decide +kernel
theorem dX12_undo_20 : decode cX12_undo 20 = .ok (.aload_n 0, 1) := by decide +kernel
theorem dX12_undo_21 : decode cX12_undo 21 = .ok (.getfield 116, 3) := by decide +kernel
theorem dX12_undo_24 : decode cX12_undo 24 = .ok (.aload_n 0, 1) := by decide +kernel
theorem dX12_undo_25 : decode cX12_undo 25 = .ok (.getfield 306, 3) := by decide +kernel
theorem dX12_undo_28 : decode cX12_undo 28 = .ok (.iaload, 1) := by decide +kernel
theorem dX12_undo_29 : decode cX12_undo 29 = .ok (.iconst 1, 1) := by decide +kernel
theorem dX12_undo_30 : decode cX12_undo 30 = .ok (.isub, 1) := by decide +kernel
theorem dX12_undo_31 : decode cX12_undo 31 = .ok (.istore_n 1, 1) := by decide +kernel
theorem dX12_undo_32 : decode cX12_undo 32 = .ok (.iload_n 1, 1) := by decide +kernel
theorem dX12_undo_33 : decode cX12_undo 33 = .ok (.ifCond .lt 53, 3) := by decide +kernel
theorem dX12_undo_36 : decode cX12_undo 36 = .ok (.bipush 64, 2) := by decide +kernel
theorem dX12_undo_38 : decode cX12_undo 38 = .ok (.aload_n 0, 1) := by decide +kernel
theorem dX12_undo_39 : decode cX12_undo 39 = .ok (.getfield 306, 3) := by decide +kernel
theorem dX12_undo_42 : decode cX12_undo 42 = .ok (.imul, 1) := by decide +kernel
theorem dX12_undo_43 : decode cX12_undo 43 = .ok (.iload_n 1, 1) := by decide +kernel
theorem dX12_undo_44 : decode cX12_undo 44 = .ok (.iadd, 1) := by decide +kernel
theorem dX12_undo_45 : decode cX12_undo 45 = .ok (.istore_n 2, 1) := by decide +kernel
theorem dX12_undo_46 : decode cX12_undo 46 = .ok (.aload_n 0, 1) := by decide +kernel
theorem dX12_undo_47 : decode cX12_undo 47 = .ok (.getfield 73, 3) := by decide +kernel
theorem dX12_undo_50 : decode cX12_undo 50 = .ok (.aload_n 0, 1) := by decide +kernel
theorem dX12_undo_51 : decode cX12_undo 51 = .ok (.getfield 101, 3) := by decide +kernel
theorem dX12_undo_54 : decode cX12_undo 54 = .ok (.iload_n 2, 1) := by decide +kernel
theorem dX12_undo_55 : decode cX12_undo 55 = .ok (.iaload, 1) := by decide +kernel
theorem dX12_undo_56 : decode cX12_undo 56 = .ok (.aload_n 0, 1) := by decide +kernel
theorem dX12_undo_57 : decode cX12_undo 57 = .ok (.getfield 104, 3) := by decide +kernel
theorem dX12_undo_60 : decode cX12_undo 60 = .ok (.iload_n 2, 1) := by decide +kernel
theorem dX12_undo_61 : decode cX12_undo 61 = .ok (.iaload, 1) := by decide +kernel
theorem dX12_undo_62 : decode cX12_undo 62 = .ok (.iastore, 1) := by decide +kernel
theorem dX12_undo_63 : decode cX12_undo 63 = .ok (.aload_n 0, 1) := by decide +kernel
theorem dX12_undo_64 : decode cX12_undo 64 = .ok (.getfield 76, 3) := by decide +kernel
theorem dX12_undo_67 : decode cX12_undo 67 = .ok (.aload_n 0, 1) := by decide +kernel
theorem dX12_undo_68 : decode cX12_undo 68 = .ok (.getfield 101, 3) := by decide +kernel
theorem dX12_undo_71 : decode cX12_undo 71 = .ok (.iload_n 2, 1) := by decide +kernel
theorem dX12_undo_72 : decode cX12_undo 72 = .ok (.iaload, 1) := by decide +kernel
theorem dX12_undo_73 : decode cX12_undo 73 = .ok (.aload_n 0, 1) := by decide +kernel
theorem dX12_undo_74 : decode cX12_undo 74 = .ok (.getfield 107, 3) := by decide +kernel
theorem dX12_undo_77 : decode cX12_undo 77 = .ok (.iload_n 2, 1) := by decide +kernel
theorem dX12_undo_78 : decode cX12_undo 78 = .ok (.laload, 1) := by decide +kernel
theorem dX12_undo_79 : decode cX12_undo 79 = .ok (.lastore, 1) := by decide +kernel
theorem dX12_undo_80 : decode cX12_undo 80 = .ok (.iinc 1 (-1), 3) := by decide +kernel
theorem dX12_undo_83 : decode cX12_undo 83 = .ok (.goto (-51), 3) := by decide +kernel
theorem dX12_undo_86 : decode cX12_undo 86 = .ok (.aload_n 0, 1) := by decide +kernel
theorem dX12_undo_87 : decode cX12_undo 87 = .ok (.getfield 116, 3) := by decide +kernel
theorem dX12_undo_90 : decode cX12_undo 90 = .ok (.aload_n 0, 1) := by decide +kernel
theorem dX12_undo_91 : decode cX12_undo 91 = .ok (.getfield 306, 3) := by decide +kernel
theorem dX12_undo_94 : decode cX12_undo 94 = .ok (.iaload, 1) := by decide +kernel
theorem dX12_undo_95 : decode cX12_undo 95 = .ok (.ireturn, 1) := by decide +kernel
theorem dX12_redo_0 : decode cX12_redo 0 = .ok (.aload_n 0, 1) := by decide +kernel
theorem dX12_redo_1 : decode cX12_redo 1 = .ok (.getfield 306, 3) := by decide +kernel
theorem dX12_redo_4 : decode cX12_redo 4 = .ok (.aload_n 0, 1) := by decide +kernel
theorem dX12_redo_5 : decode cX12_redo 5 = .ok (.getfield 309, 3) := by decide +kernel
theorem dX12_redo_8 : decode cX12_redo 8 = .ok (.if_icmp .ne 6, 3) := by decide +kernel
theorem dX12_redo_11 : decode cX12_redo 11 = .ok (.bipush (-3), 2) := by decide +kernel
theorem dX12_redo_13 : decode cX12_redo 13 = .ok (.ireturn, 1) := by decide +kernel
theorem dX12_redo_14 : decode cX12_redo 14 = .ok (.iconst 0, 1) := by decide +kernel
theorem dX12_redo_15 : decode cX12_redo 15 = .ok (.istore_n 1, 1) := by decide +kernel
theorem dX12_redo_16 : decode cX12_redo 16 = .ok (.iload_n 1, 1) := by decide +kernel
theorem dX12_redo_17 : decode cX12_redo 17 = .ok (.aload_n 0, 1) := by decide +kernel
theorem dX12_redo_18 : decode cX12_redo 18 = .ok (.getfield 116, 3) := by decide +kernel
theorem dX12_redo_21 : decode cX12_redo 21 = .ok (.aload_n 0, 1) := by decide +kernel
theorem dX12_redo_22 : decode cX12_redo 22 = .ok (.getfield 306, 3) := by decide +kernel
theorem dX12_redo_25 : decode cX12_redo 25 = .ok (.iaload, 1) := by decide +kernel
theorem dX12_redo_26 : decode cX12_redo 26 = .ok (.if_icmp .ge 53, 3) := by decide +kernel
theorem dX12_redo_29 : decode cX12_redo 29 = .ok (.bipush 64, 2) := by decide +kernel
theorem dX12_redo_31 : decode cX12_redo 31 = .ok (.aload_n 0, 1) := by decide +kernel
theorem dX12_redo_32 : decode cX12_redo 32 = .ok (.getfield 306, 3) := by decide +kernel
theorem dX12_redo_35 : decode cX12_redo 35 = .ok (.imul, 1) := by decide +kernel
theorem dX12_redo_36 : decode cX12_redo 36 = .ok (.iload_n 1, 1) := by decide +kernel
theorem dX12_redo_37 : decode cX12_redo 37 = .ok (.iadd, 1) := by decide +kernel
theorem dX12_redo_38 : decode cX12_redo 38 = .ok (.istore_n 2, 1) := by decide +kernel
theorem dX12_redo_39 : decode cX12_redo 39 = .ok (.aload_n 0, 1) := by decide +kernel
theorem dX12_redo_40 : decode cX12_redo 40 = .ok (.getfield 73, 3) := by decide +kernel
theorem dX12_redo_43 : decode cX12_redo 43 = .ok (.aload_n 0, 1) := by decide +kernel
theorem dX12_redo_44 : decode cX12_redo 44 = .ok (.getfield 101, 3) := by decide +kernel
theorem dX12_redo_47 : decode cX12_redo 47 = .ok (.iload_n 2, 1) := by decide +kernel
theorem dX12_redo_48 : decode cX12_redo 48 = .ok (.iaload, 1) := by decide +kernel
theorem dX12_redo_49 : decode cX12_redo 49 = .ok (.aload_n 0, 1) := by decide +kernel
theorem dX12_redo_50 : decode cX12_redo 50 = .ok (.getfield 110, 3) := by decide +kernel
theorem dX12_redo_53 : decode cX12_redo 53 = .ok (.iload_n 2, 1) := by decide +kernel
theorem dX12_redo_54 : decode cX12_redo 54 = .ok (.iaload, 1) := by decide +kernel
theorem dX12_redo_55 : decode cX12_redo 55 = .ok (.iastore, 1) := by decide +kernel
theorem dX12_redo_56 : decode cX12_redo 56 = .ok (.aload_n 0, 1) := by decide +kernel
theorem dX12_redo_57 : decode cX12_redo 57 = .ok (.getfield 76, 3) := by decide +kernel
theorem dX12_redo_60 : decode cX12_redo 60 = .ok (.aload_n 0, 1) := by decide +kernel
theorem dX12_redo_61 : decode cX12_redo 61 = .ok (.getfield 101, 3) := by decide +kernel
theorem dX12_redo_64 : decode cX12_redo 64 = .ok (.iload_n 2, 1) := by decide +kernel
theorem dX12_redo_65 : decode cX12_redo 65 = .ok (.iaload, 1) := by decide +kernel
theorem dX12_redo_66 : decode cX12_redo 66 = .ok (.aload_n 0, 1) := by decide +kernel
theorem dX12_redo_67 : decode cX12_redo 67 = .ok (.getfield 113, 3) := by decide +kernel
theorem dX12_redo_70 : decode cX12_redo 70 = .ok (.iload_n 2, 1) := by decide +kernel
theorem dX12_redo_71 : decode cX12_redo 71 = .ok (.laload, 1) := by decide +kernel
theorem dX12_redo_72 : decode cX12_redo 72 = .ok (.lastore, 1) := by decide +kernel
theorem dX12_redo_73 : decode cX12_redo 73 = .ok (.iinc 1 1, 3) := by decide +kernel
theorem dX12_redo_76 : decode cX12_redo 76 = .ok (.goto (-60), 3) := by decide +kernel
theorem dX12_redo_79 : decode cX12_redo 79 = .ok (.aload_n 0, 1) := by decide +kernel
theorem dX12_redo_80 : decode cX12_redo 80 = .ok (.dup, 1) := by decide +kernel
theorem dX12_redo_81 : decode cX12_redo 81 = .ok (.getfield 306, 3) := by decide +kernel
theorem dX12_redo_84 : decode cX12_redo 84 = .ok (.iconst 1, 1) := by decide +kernel
theorem dX12_redo_85 : decode cX12_redo 85 = .ok (.iadd, 1) := by decide +kernel
theorem dX12_redo_86 : decode cX12_redo 86 = .ok (.putfield 306, 3) := by decide +kernel
theorem dX12_redo_89 : decode cX12_redo 89 = .ok (.aload_n 0, 1) := by decide +kernel
theorem dX12_redo_90 : decode cX12_redo 90 = .ok (.getfield 116, 3) := by decide +kernel
theorem dX12_redo_93 : decode cX12_redo 93 = .ok (.aload_n 0, 1) := by decide +kernel
theorem dX12_redo_94 : decode cX12_redo 94 = .ok (.getfield 306, 3) := by decide +kernel
theorem dX12_redo_97 : decode cX12_redo 97 = .ok (.iconst 1, 1) := by decide +kernel
theorem dX12_redo_98 : decode cX12_redo 98 = .ok (.isub, 1) := by decide +kernel
theorem dX12_redo_99 : decode cX12_redo 99 = .ok (.iaload, 1) := by decide +kernel
theorem dX12_redo_100 : decode cX12_redo 100 = .ok (.ireturn, 1) := by decide +kernel
theorem dX12_act_0 : decode cX12_act 0 = .ok (.iload_n 1, 1) := by decide +kernel
theorem dX12_act_1 : decode cX12_act 1 = .ok (.i2l, 1) := by decide +kernel
theorem dX12_act_2 : decode cX12_act 2 = .ok (.lconst 0, 1) := by decide +kernel
theorem dX12_act_3 : decode cX12_act 3 = .ok (.aload_n 0, 1) := by decide +kernel
theorem dX12_act_4 : decode cX12_act 4 = .ok (.getfield 306, 3) := by decide +kernel
theorem dX12_act_7 : decode cX12_act 7 = .ok (.iconst 1, 1) := by decide +kernel
theorem dX12_act_8 : decode cX12_act 8 = .ok (.isub, 1) := by decide +kernel
theorem dX12_act_9 : decode cX12_act 9 = .ok (.i2l, 1) := by decide +kernel
theorem dX12_act_10 : decode cX12_act 10 = .ok (.invokestatic 15, 3) := by decide +kernel
theorem dX12_act_13 : decode cX12_act 13 = .ok (.ifCond .ne 5, 3) := by decide +kernel
theorem dX12_act_16 : decode cX12_act 16 = .ok (.iconst (-1), 1) := by decide +kernel
theorem dX12_act_17 : decode cX12_act 17 = .ok (.ireturn, 1) := by decide +kernel
theorem dX12_act_18 : decode cX12_act 18 = .ok (.iload_n 2, 1) := by decide +kernel
theorem dX12_act_19 : decode cX12_act 19 = .ok (.ifCond .ne 10, 3) := by decide +kernel
theorem dX12_act_22 : decode cX12_act 22 = .ok (.aload_n 0, 1) := by decide +kernel
theorem dX12_act_23 : decode cX12_act 23 = .ok (.getfield 116, 3) := by decide +kernel
theorem dX12_act_26 : decode cX12_act 26 = .ok (.iload_n 1, 1) := by decide +kernel
theorem dX12_act_27 : decode cX12_act 27 = .ok (.iaload, 1) := by decide +kernel
theorem dX12_act_28 : decode cX12_act 28 = .ok (.ireturn, 1) := by decide +kernel
theorem dX12_act_29 : decode cX12_act 29 = .ok (.iload_n 2, 1) := by decide +kernel
theorem dX12_act_30 : decode cX12_act 30 = .ok (.i2l, 1) := by decide +kernel
theorem dX12_act_31 : decode cX12_act 31 = .ok (.ldc2_w 263, 3) := by decide +kernel
theorem dX12_act_34 : decode cX12_act 34 = .ok (.bipush 9, 2) := by decide +kernel
theorem dX12_act_36 : decode cX12_act 36 = .ok (.aload_n 0, 1) := by decide +kernel
theorem dX12_act_37 : decode cX12_act 37 = .ok (.getfield 116, 3) := by decide +kernel
theorem dX12_act_40 : decode cX12_act 40 = .ok (.iload_n 1, 1) := by decide +kernel
theorem dX12_act_41 : decode cX12_act 41 = .ok (.iaload, 1) := by decide +kernel
theorem dX12_act_42 : decode cX12_act 42 = .ok (.iadd, 1) := by decide +kernel
theorem dX12_act_43 : decode cX12_act 43 = .ok (.i2l, 1) := by decide +kernel
theorem dX12_act_44 : decode cX12_act 44 = .ok (.invokestatic 15, 3) := by decide +kernel
theorem dX12_act_47 : decode cX12_act 47 = .ok (.ifCond .eq 23, 3) := by decide +kernel
theorem dX12_act_50 : decode cX12_act 50 = .ok (.aload_n 0, 1) := by decide +kernel
theorem dX12_act_51 : decode cX12_act 51 = .ok (.getfield 101, 3) := by decide +kernel
theorem dX12_act_54 : decode cX12_act 54 = .ok (.bipush 64, 2) := by decide +kernel
theorem dX12_act_56 : decode cX12_act 56 = .ok (.iload_n 1, 1) := by decide +kernel
theorem dX12_act_57 : decode cX12_act 57 = .ok (.imul, 1) := by decide +kernel
theorem dX12_act_58 : decode cX12_act 58 = .ok (.iload_n 2, 1) := by decide +kernel
theorem dX12_act_59 : decode cX12_act 59 = .ok (.iadd, 1) := by decide +kernel
theorem dX12_act_60 : decode cX12_act 60 = .ok (.bipush 10, 2) := by decide +kernel
theorem dX12_act_62 : decode cX12_act 62 = .ok (.isub, 1) := by decide +kernel
theorem dX12_act_63 : decode cX12_act 63 = .ok (.iaload, 1) := by decide +kernel
theorem dX12_act_64 : decode cX12_act 64 = .ok (.bipush 32, 2) := by decide +kernel
theorem dX12_act_66 : decode cX12_act 66 = .ok (.irem, 1) := by decide +kernel
theorem dX12_act_67 : decode cX12_act 67 = .ok (.goto 4, 3) := by decide +kernel
theorem dX12_act_70 : decode cX12_act 70 = .ok (.iconst (-1), 1) := by decide +kernel
theorem dX12_act_71 : decode cX12_act 71 = .ok (.ireturn, 1) := by decide +kernel
theorem dX12_stops_0 : decode cX12_stops 0 = .ok (.aload_n 0, 1) := by decide +kernel
theorem dX12_stops_1 : decode cX12_stops 1 = .ok (.invokevirtual 316, 3) := by decide +kernel
theorem dX12_stops_4 : decode cX12_stops 4 = .ok (.aload_n 0, 1) := by decide +kernel
theorem dX12_stops_5 : decode cX12_stops 5 = .ok (.iconst 1, 1) := by decide +kernel
theorem dX12_stops_6 : decode cX12_stops 6 = .ok (.putfield 319, 3) := by decide +kernel
theorem dX12_stops_9 : decode cX12_stops 9 = .ok (.aload_n 0, 1) := by decide +kernel
theorem dX12_stops_10 : decode cX12_stops 10 = .ok (.getfield 119, 3) := by decide +kernel
theorem dX12_stops_13 : decode cX12_stops 13 = .ok (.iconst 0, 1) := by decide +kernel
theorem dX12_stops_14 : decode cX12_stops 14 = .ok (.iload_n 1, 1) := by decide +kernel
theorem dX12_stops_15 : decode cX12_stops 15 = .ok (.iastore, 1) := by decide +kernel
theorem dX12_stops_16 : decode cX12_stops 16 = .ok (.aload_n 0, 1) := by decide +kernel
theorem dX12_stops_17 : decode cX12_stops 17 = .ok (.getfield 119, 3) := by decide +kernel
theorem dX12_stops_20 : decode cX12_stops 20 = .ok (.iconst 1, 1) := by decide +kernel
theorem dX12_stops_21 : decode cX12_stops 21 = .ok (.iload_n 2, 1) := by decide +kernel
theorem dX12_stops_22 : decode cX12_stops 22 = .ok (.iastore, 1) := by decide +kernel
theorem dX12_stops_23 : decode cX12_stops 23 = .ok (.aload_n 0, 1) := by decide +kernel
theorem dX12_stops_24 : decode cX12_stops 24 = .ok (.getfield 119, 3) := by decide +kernel
theorem dX12_stops_27 : decode cX12_stops 27 = .ok (.iconst 2, 1) := by decide +kernel
theorem dX12_stops_28 : decode cX12_stops 28 = .ok (.iload_n 3, 1) := by decide +kernel
theorem dX12_stops_29 : decode cX12_stops 29 = .ok (.iastore, 1) := by decide +kernel
theorem dX12_stops_30 : decode cX12_stops 30 = .ok (.bipush (-100), 2) := by decide +kernel
theorem dX12_stops_32 : decode cX12_stops 32 = .ok (.iload_n 1, 1) := by decide +kernel
theorem dX12_stops_33 : decode cX12_stops 33 = .ok (.isub, 1) := by decide +kernel
theorem dX12_stops_34 : decode cX12_stops 34 = .ok (.ireturn, 1) := by decide +kernel
theorem dX12_stop_0 : decode cX12_stop 0 = .ok (.iload_n 1, 1) := by decide +kernel
theorem dX12_stop_1 : decode cX12_stop 1 = .ok (.i2l, 1) := by decide +kernel
theorem dX12_stop_2 : decode cX12_stop 2 = .ok (.lconst 0, 1) := by decide +kernel
theorem dX12_stop_3 : decode cX12_stop 3 = .ok (.ldc2_w 323, 3) := by decide +kernel
theorem dX12_stop_6 : decode cX12_stop 6 = .ok (.invokestatic 15, 3) := by decide +kernel
theorem dX12_stop_9 : decode cX12_stop 9 = .ok (.ifCond .ne 5, 3) := by decide +kernel
theorem dX12_stop_12 : decode cX12_stop 12 = .ok (.iconst (-1), 1) := by decide +kernel
theorem dX12_stop_13 : decode cX12_stop 13 = .ok (.ireturn, 1) := by decide +kernel
theorem dX12_stop_14 : decode cX12_stop 14 = .ok (.aload_n 0, 1) := by decide +kernel
theorem dX12_stop_15 : decode cX12_stop 15 = .ok (.getfield 319, 3) := by decide +kernel
theorem dX12_stop_18 : decode cX12_stop 18 = .ok (.ifCond .eq 12, 3) := by decide +kernel
theorem dX12_stop_21 : decode cX12_stop 21 = .ok (.aload_n 0, 1) := by decide +kernel
theorem dX12_stop_22 : decode cX12_stop 22 = .ok (.getfield 119, 3) := by decide +kernel
theorem dX12_stop_25 : decode cX12_stop 25 = .ok (.iload_n 1, 1) := by decide +kernel
theorem dX12_stop_26 : decode cX12_stop 26 = .ok (.iaload, 1) := by decide +kernel
theorem dX12_stop_27 : decode cX12_stop 27 = .ok (.goto 5, 3) := by decide +kernel
theorem dX12_stop_30 : decode cX12_stop 30 = .ok (.bipush (-3), 2) := by decide +kernel
theorem dX12_stop_32 : decode cX12_stop 32 = .ok (.ireturn, 1) := by decide +kernel
theorem dX12_copiesOneByOne_0 : decode cX12_copiesOneByOne 0 = .ok (.aload_n 0, 1) := by decide +kernel
theorem dX12_copiesOneByOne_1 : decode cX12_copiesOneByOne 1 = .ok (.iload_n 1, 1) := by decide +kernel
theorem dX12_copiesOneByOne_2 : decode cX12_copiesOneByOne 2 = .ok (.iconst 4, 1) := by decide +kernel
theorem dX12_copiesOneByOne_3 : decode cX12_copiesOneByOne 3 = .ok (.invokevirtual 280, 3) := by decide +kernel
theorem dX12_copiesOneByOne_6 : decode cX12_copiesOneByOne 6 = .ok (.istore_n 3, 1) := by decide +kernel
theorem dX12_copiesOneByOne_7 : decode cX12_copiesOneByOne 7 = .ok (.iconst 0, 1) := by decide +kernel
theorem dX12_copiesOneByOne_8 : decode cX12_copiesOneByOne 8 = .ok (.istore 4, 2) := by decide +kernel
theorem dX12_copiesOneByOne_10 : decode cX12_copiesOneByOne 10 = .ok (.iload 4, 2) := by decide +kernel
theorem dX12_copiesOneByOne_12 : decode cX12_copiesOneByOne 12 = .ok (.aload_n 0, 1) := by decide +kernel
theorem dX12_copiesOneByOne_13 : decode cX12_copiesOneByOne 13 = .ok (.iload_n 1, 1) := by decide +kernel
theorem dX12_copiesOneByOne_14 : decode cX12_copiesOneByOne 14 = .ok (.iconst 3, 1) := by decide +kernel
theorem dX12_copiesOneByOne_15 : decode cX12_copiesOneByOne 15 = .ok (.invokevirtual 280, 3) := by decide +kernel
theorem dX12_copiesOneByOne_18 : decode cX12_copiesOneByOne 18 = .ok (.if_icmp .ge 59, 3) := by decide +kernel
theorem dX12_copiesOneByOne_21 : decode cX12_copiesOneByOne 21 = .ok (.aload_n 0, 1) := by decide +kernel
theorem dX12_copiesOneByOne_22 : decode cX12_copiesOneByOne 22 = .ok (.iload_n 1, 1) := by decide +kernel
theorem dX12_copiesOneByOne_23 : decode cX12_copiesOneByOne 23 = .ok (.iload 4, 2) := by decide +kernel
theorem dX12_copiesOneByOne_25 : decode cX12_copiesOneByOne 25 = .ok (.iload_n 3, 1) := by decide +kernel
theorem dX12_copiesOneByOne_26 : decode cX12_copiesOneByOne 26 = .ok (.invokevirtual 286, 3) := by decide +kernel
theorem dX12_copiesOneByOne_29 : decode cX12_copiesOneByOne 29 = .ok (.istore 5, 2) := by decide +kernel
theorem dX12_copiesOneByOne_31 : decode cX12_copiesOneByOne 31 = .ok (.iload 5, 2) := by decide +kernel
theorem dX12_copiesOneByOne_33 : decode cX12_copiesOneByOne 33 = .ok (.ifCond .eq 13, 3) := by decide +kernel
theorem dX12_copiesOneByOne_36 : decode cX12_copiesOneByOne 36 = .ok (.aload_n 0, 1) := by decide +kernel
theorem dX12_copiesOneByOne_37 : decode cX12_copiesOneByOne 37 = .ok (.iload 4, 2) := by decide +kernel
theorem dX12_copiesOneByOne_39 : decode cX12_copiesOneByOne 39 = .ok (.iconst 0, 1) := by decide +kernel
theorem dX12_copiesOneByOne_40 : decode cX12_copiesOneByOne 40 = .ok (.iload 5, 2) := by decide +kernel
theorem dX12_copiesOneByOne_42 : decode cX12_copiesOneByOne 42 = .ok (.invokevirtual 325, 3) := by decide +kernel
theorem dX12_copiesOneByOne_45 : decode cX12_copiesOneByOne 45 = .ok (.ireturn, 1) := by decide +kernel
theorem dX12_copiesOneByOne_46 : decode cX12_copiesOneByOne 46 = .ok (.aload_n 0, 1) := by decide +kernel
theorem dX12_copiesOneByOne_47 : decode cX12_copiesOneByOne 47 = .ok (.iload_n 2, 1) := by decide +kernel
theorem dX12_copiesOneByOne_48 : decode cX12_copiesOneByOne 48 = .ok (.iload 4, 2) := by decide +kernel
theorem dX12_copiesOneByOne_50 : decode cX12_copiesOneByOne 50 = .ok (.iload_n 3, 1) := by decide +kernel
theorem dX12_copiesOneByOne_51 : decode cX12_copiesOneByOne 51 = .ok (.invokevirtual 328, 3) := by decide +kernel
theorem dX12_copiesOneByOne_54 : decode cX12_copiesOneByOne 54 = .ok (.istore 5, 2) := by decide +kernel
theorem dX12_copiesOneByOne_56 : decode cX12_copiesOneByOne 56 = .ok (.iload 5, 2) := by decide +kernel
theorem dX12_copiesOneByOne_58 : decode cX12_copiesOneByOne 58 = .ok (.ifCond .eq 13, 3) := by decide +kernel
theorem dX12_copiesOneByOne_61 : decode cX12_copiesOneByOne 61 = .ok (.aload_n 0, 1) := by decide +kernel
theorem dX12_copiesOneByOne_62 : decode cX12_copiesOneByOne 62 = .ok (.iload 4, 2) := by decide +kernel
theorem dX12_copiesOneByOne_64 : decode cX12_copiesOneByOne 64 = .ok (.iconst 1, 1) := by decide +kernel
theorem dX12_copiesOneByOne_65 : decode cX12_copiesOneByOne 65 = .ok (.iload 5, 2) := by decide +kernel
theorem dX12_copiesOneByOne_67 : decode cX12_copiesOneByOne 67 = .ok (.invokevirtual 325, 3) := by decide +kernel
theorem dX12_copiesOneByOne_70 : decode cX12_copiesOneByOne 70 = .ok (.ireturn, 1) := by decide +kernel
theorem dX12_copiesOneByOne_71 : decode cX12_copiesOneByOne 71 = .ok (.iinc 4 1, 3) := by decide +kernel
theorem dX12_copiesOneByOne_74 : decode cX12_copiesOneByOne 74 = .ok (.goto (-64), 3) := by decide +kernel
theorem dX12_copiesOneByOne_77 : decode cX12_copiesOneByOne 77 = .ok (.aload_n 0, 1) := by decide +kernel

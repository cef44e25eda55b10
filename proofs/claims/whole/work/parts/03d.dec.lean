theorem dX11_feed_13 : decode cX11_feed 13 = .ok (.ireturn, 1) := by decide +kernel
theorem dX11_feed_14 : decode cX11_feed 14 = .ok (.aload_n 0, 1) := by decide +kernel
theorem dX11_feed_15 : decode cX11_feed 15 = .ok (.getfield 45, 3) := by decide +kernel
theorem dX11_feed_18 : decode cX11_feed 18 = .ok (.iload_n 1, 1) := by decide +kernel
theorem dX11_feed_19 : decode cX11_feed 19 = .ok (.invokevirtual 305, 3) := by decide +kernel
theorem dX11_feed_22 : decode cX11_feed 22 = .ok (.ireturn, 1) := by decide +kernel
theorem dX11_run_0 : decode cX11_run 0 = .ok (.aload_n 0, 1) := by decide +kernel
theorem dX11_run_1 : decode cX11_run 1 = .ok (.getfield 45, 3) := by decide +kernel
theorem dX11_run_4 : decode cX11_run 4 = .ok (.invokevirtual 308, 3) := by decide +kernel
theorem dX11_run_7 : decode cX11_run 7 = .ok (.istore_n 1, 1) := by decide +kernel
theorem dX11_run_8 : decode cX11_run 8 = .ok (.aload_n 0, 1) := by decide +kernel
theorem dX11_run_9 : decode cX11_run 9 = .ok (.getfield 45, 3) := by decide +kernel
theorem dX11_run_12 : decode cX11_run 12 = .ok (.iconst 0, 1) := by decide +kernel
theorem dX11_run_13 : decode cX11_run 13 = .ok (.putfield 312, 3) := by decide +kernel
theorem dX11_run_16 : decode cX11_run 16 = .ok (.iload_n 1, 1) := by decide +kernel
theorem dX11_run_17 : decode cX11_run 17 = .ok (.ifCond .ne 15, 3) := by decide +kernel
theorem dX11_run_20 : decode cX11_run 20 = .ok (.sipush (-1000), 3) := by decide +kernel
theorem dX11_run_23 : decode cX11_run 23 = .ok (.aload_n 0, 1) := by decide +kernel
theorem dX11_run_24 : decode cX11_run 24 = .ok (.getfield 45, 3) := by decide +kernel
theorem dX11_run_27 : decode cX11_run 27 = .ok (.getfield 313, 3) := by decide +kernel
theorem dX11_run_30 : decode cX11_run 30 = .ok (.isub, 1) := by decide +kernel
theorem dX11_run_31 : decode cX11_run 31 = .ok (.ireturn, 1) := by decide +kernel
theorem dX11_run_32 : decode cX11_run 32 = .ok (.iconst 0, 1) := by decide +kernel
theorem dX11_run_33 : decode cX11_run 33 = .ok (.istore_n 2, 1) := by decide +kernel
theorem dX11_run_34 : decode cX11_run 34 = .ok (.iload_n 2, 1) := by decide +kernel
theorem dX11_run_35 : decode cX11_run 35 = .ok (.aload_n 0, 1) := by decide +kernel
theorem dX11_run_36 : decode cX11_run 36 = .ok (.getfield 45, 3) := by decide +kernel
theorem dX11_run_39 : decode cX11_run 39 = .ok (.getfield 316, 3) := by decide +kernel
theorem dX11_run_42 : decode cX11_run 42 = .ok (.if_icmp .ge 58, 3) := by decide +kernel
theorem dX11_run_45 : decode cX11_run 45 = .ok (.aload_n 0, 1) := by decide +kernel
theorem dX11_run_46 : decode cX11_run 46 = .ok (.getfield 45, 3) := by decide +kernel
theorem dX11_run_49 : decode cX11_run 49 = .ok (.iload_n 2, 1) := by decide +kernel
theorem dX11_run_50 : decode cX11_run 50 = .ok (.invokevirtual 319, 3) := by decide +kernel
theorem dX11_run_53 : decode cX11_run 53 = .ok (.astore_n 3, 1) := by decide +kernel
theorem dX11_run_54 : decode cX11_run 54 = .ok (.aload_n 3, 1) := by decide +kernel
theorem dX11_run_55 : decode cX11_run 55 = .ok (.ifnonnull 6, 3) := by decide +kernel
theorem dX11_run_58 : decode cX11_run 58 = .ok (.goto 42, 3) := by decide +kernel
theorem dX11_run_61 : decode cX11_run 61 = .ok (.aload_n 3, 1) := by decide +kernel
theorem dX11_run_62 : decode cX11_run 62 = .ok (.getfield 323, 3) := by decide +kernel
theorem dX11_run_65 : decode cX11_run 65 = .ok (.ifCond .eq 12, 3) := by decide +kernel
theorem dX11_run_68 : decode cX11_run 68 = .ok (.aload_n 0, 1) := by decide +kernel
theorem dX11_run_69 : decode cX11_run 69 = .ok (.aload_n 3, 1) := by decide +kernel
theorem dX11_run_70 : decode cX11_run 70 = .ok (.iload_n 2, 1) := by decide +kernel
theorem dX11_run_71 : decode cX11_run 71 = .ok (.invokevirtual 328, 3) := by decide +kernel
theorem dX11_run_74 : decode cX11_run 74 = .ok (.goto 9, 3) := by decide +kernel
theorem dX11_run_77 : decode cX11_run 77 = .ok (.aload_n 0, 1) := by decide +kernel
theorem dX11_run_78 : decode cX11_run 78 = .ok (.aload_n 3, 1) := by decide +kernel
theorem dX11_run_79 : decode cX11_run 79 = .ok (.iload_n 2, 1) := by decide +kernel
theorem dX11_run_80 : decode cX11_run 80 = .ok (.invokevirtual 332, 3) := by decide +kernel
theorem dX11_run_83 : decode cX11_run 83 = .ok (.istore 4, 2) := by decide +kernel
theorem dX11_run_85 : decode cX11_run 85 = .ok (.iload 4, 2) := by decide +kernel
theorem dX11_run_87 : decode cX11_run 87 = .ok (.iconst 1, 1) := by decide +kernel
theorem dX11_run_88 : decode cX11_run 88 = .ok (.if_icmp .eq 6, 3) := by decide +kernel
theorem dX11_run_91 : decode cX11_run 91 = .ok (.iload 4, 2) := by decide +kernel
theorem dX11_run_93 : decode cX11_run 93 = .ok (.ireturn, 1) := by decide +kernel
theorem dX11_run_94 : decode cX11_run 94 = .ok (.iinc 2 1, 3) := by decide +kernel
theorem dX11_run_97 : decode cX11_run 97 = .ok (.goto (-63), 3) := by decide +kernel
theorem dX11_run_100 : decode cX11_run 100 = .ok (.aload_n 0, 1) := by decide +kernel
theorem dX11_run_101 : decode cX11_run 101 = .ok (.aload_n 0, 1) := by decide +kernel
theorem dX11_run_102 : decode cX11_run 102 = .ok (.getfield 45, 3) := by decide +kernel
theorem dX11_run_105 : decode cX11_run 105 = .ok (.getfield 316, 3) := by decide +kernel
theorem dX11_run_108 : decode cX11_run 108 = .ok (.invokevirtual 246, 3) := by decide +kernel
theorem dX11_run_111 : decode cX11_run 111 = .ok (.ireturn, 1) := by decide +kernel
theorem dX11_image_0 : decode cX11_image 0 = .ok (.aload_n 0, 1) := by decide +kernel
theorem dX11_image_1 : decode cX11_image 1 = .ok (.aload_n 0, 1) := by decide +kernel
theorem dX11_image_2 : decode cX11_image 2 = .ok (.getfield 59, 3) := by decide +kernel
theorem dX11_image_5 : decode cX11_image 5 = .ok (.invokevirtual 335, 3) := by decide +kernel
theorem dX11_image_8 : decode cX11_image 8 = .ok (.putfield 63, 3) := by decide +kernel
theorem dX11_image_11 : decode cX11_image 11 = .ok (.aload_n 0, 1) := by decide +kernel
theorem dX11_image_12 : decode cX11_image 12 = .ok (.getfield 59, 3) := by decide +kernel
theorem dX11_image_15 : decode cX11_image 15 = .ok (.invokevirtual 339, 3) := by decide +kernel
theorem dX11_image_18 : decode cX11_image 18 = .ok (.ireturn, 1) := by decide +kernel
theorem dX11_back_0 : decode cX11_back 0 = .ok (.aload_n 0, 1) := by decide +kernel
theorem dX11_back_1 : decode cX11_back 1 = .ok (.getfield 63, 3) := by decide +kernel
theorem dX11_back_4 : decode cX11_back 4 = .ok (.ifnonnull 6, 3) := by decide +kernel
theorem dX11_back_7 : decode cX11_back 7 = .ok (.bipush (-3), 2) := by decide +kernel
theorem dX11_back_9 : decode cX11_back 9 = .ok (.ireturn, 1) := by decide +kernel
theorem dX11_back_10 : decode cX11_back 10 = .ok (.aload_n 0, 1) := by decide +kernel
theorem dX11_back_11 : decode cX11_back 11 = .ok (.aload_n 0, 1) := by decide +kernel
theorem dX11_back_12 : decode cX11_back 12 = .ok (.getfield 63, 3) := by decide +kernel
theorem dX11_back_15 : decode cX11_back 15 = .ok (.invokevirtual 335, 3) := by decide +kernel
theorem dX11_back_18 : decode cX11_back 18 = .ok (.putfield 59, 3) := by decide +kernel
theorem dX11_back_21 : decode cX11_back 21 = .ok (.aload_n 0, 1) := by decide +kernel
theorem dX11_back_22 : decode cX11_back 22 = .ok (.getfield 38, 3) := by decide +kernel
theorem dX11_back_25 : decode cX11_back 25 = .ok (.invokevirtual 342, 3) := by decide +kernel
theorem dX11_back_28 : decode cX11_back 28 = .ok (.aload_n 0, 1) := by decide +kernel
theorem dX11_back_29 : decode cX11_back 29 = .ok (.getfield 59, 3) := by decide +kernel
theorem dX11_back_32 : decode cX11_back 32 = .ok (.invokevirtual 339, 3) := by decide +kernel
theorem dX11_back_35 : decode cX11_back 35 = .ok (.ireturn, 1) := by decide +kernel
theorem dX11_count_0 : decode cX11_count 0 = .ok (.iload_n 1, 1) := by decide +kernel
theorem dX11_count_1 : decode cX11_count 1 = .ok (.tableswitch 131 0 8 #[51, 59, 67, 75, 83, 91, 107, 115, 123], 51) := by decide +kernel
theorem dX11_count_52 : decode cX11_count 52 = .ok (.aload_n 0, 1) := by decide +kernel
theorem dX11_count_53 : decode cX11_count 53 = .ok (.getfield 59, 3) := by decide +kernel
theorem dX11_count_56 : decode cX11_count 56 = .ok (.invokevirtual 345, 3) := by decide +kernel
theorem dX11_count_59 : decode cX11_count 59 = .ok (.ireturn, 1) := by decide +kernel
theorem dX11_count_60 : decode cX11_count 60 = .ok (.aload_n 0, 1) := by decide +kernel
theorem dX11_count_61 : decode cX11_count 61 = .ok (.getfield 59, 3) := by decide +kernel
theorem dX11_count_64 : decode cX11_count 64 = .ok (.invokevirtual 348, 3) := by decide +kernel
theorem dX11_count_67 : decode cX11_count 67 = .ok (.ireturn, 1) := by decide +kernel
theorem dX11_count_68 : decode cX11_count 68 = .ok (.aload_n 0, 1) := by decide +kernel
theorem dX11_count_69 : decode cX11_count 69 = .ok (.getfield 59, 3) := by decide +kernel
theorem dX11_count_72 : decode cX11_count 72 = .ok (.invokevirtual 339, 3) := by decide +kernel
theorem dX11_count_75 : decode cX11_count 75 = .ok (.ireturn, 1) := by decide +kernel
theorem dX11_count_76 : decode cX11_count 76 = .ok (.aload_n 0, 1) := by decide +kernel
theorem dX11_count_77 : decode cX11_count 77 = .ok (.getfield 59, 3) := by decide +kernel
theorem dX11_count_80 : decode cX11_count 80 = .ok (.invokevirtual 351, 3) := by decide +kernel
theorem dX11_count_83 : decode cX11_count 83 = .ok (.ireturn, 1) := by decide +kernel
theorem dX11_count_84 : decode cX11_count 84 = .ok (.aload_n 0, 1) := by decide +kernel
theorem dX11_count_85 : decode cX11_count 85 = .ok (.getfield 38, 3) := by decide +kernel
theorem dX11_count_88 : decode cX11_count 88 = .ok (.getfield 354, 3) := by decide +kernel
theorem dX11_count_91 : decode cX11_count 91 = .ok (.ireturn, 1) := by decide +kernel
theorem dX11_count_92 : decode cX11_count 92 = .ok (.aload_n 0, 1) := by decide +kernel
theorem dX11_count_93 : decode cX11_count 93 = .ok (.getfield 38, 3) := by decide +kernel
theorem dX11_count_96 : decode cX11_count 96 = .ok (.getfield 357, 3) := by decide +kernel
theorem dX11_count_99 : decode cX11_count 99 = .ok (.aload_n 0, 1) := by decide +kernel
theorem dX11_count_100 : decode cX11_count 100 = .ok (.getfield 38, 3) := by decide +kernel
theorem dX11_count_103 : decode cX11_count 103 = .ok (.getfield 354, 3) := by decide +kernel
theorem dX11_count_106 : decode cX11_count 106 = .ok (.isub, 1) := by decide +kernel
theorem dX11_count_107 : decode cX11_count 107 = .ok (.ireturn, 1) := by decide +kernel
theorem dX11_count_108 : decode cX11_count 108 = .ok (.aload_n 0, 1) := by decide +kernel
theorem dX11_count_109 : decode cX11_count 109 = .ok (.getfield 45, 3) := by decide +kernel
theorem dX11_count_112 : decode cX11_count 112 = .ok (.getfield 312, 3) := by decide +kernel
theorem dX11_count_115 : decode cX11_count 115 = .ok (.ireturn, 1) := by decide +kernel
theorem dX11_count_116 : decode cX11_count 116 = .ok (.aload_n 0, 1) := by decide +kernel
theorem dX11_count_117 : decode cX11_count 117 = .ok (.getfield 52, 3) := by decide +kernel
theorem dX11_count_120 : decode cX11_count 120 = .ok (.getfield 299, 3) := by decide +kernel
theorem dX11_count_123 : decode cX11_count 123 = .ok (.ireturn, 1) := by decide +kernel
theorem dX11_count_124 : decode cX11_count 124 = .ok (.aload_n 0, 1) := by decide +kernel
theorem dX11_count_125 : decode cX11_count 125 = .ok (.getfield 59, 3) := by decide +kernel
theorem dX11_count_128 : decode cX11_count 128 = .ok (.invokevirtual 360, 3) := by decide +kernel
theorem dX11_count_131 : decode cX11_count 131 = .ok (.ireturn, 1) := by decide +kernel
theorem dX11_count_132 : decode cX11_count 132 = .ok (.aload_n 0, 1) := by decide +kernel
theorem dX11_count_133 : decode cX11_count 133 = .ok (.iload_n 1, 1) := by decide +kernel
theorem dX11_count_134 : decode cX11_count 134 = .ok (.bipush 11, 2) := by decide +kernel
theorem dX11_count_136 : decode cX11_count 136 = .ok (.isub, 1) := by decide +kernel
theorem dX11_count_137 : decode cX11_count 137 = .ok (.invokevirtual 361, 3) := by decide +kernel
theorem dX11_count_140 : decode cX11_count 140 = .ok (.ireturn, 1) := by decide +kernel
theorem dX11_isSlot_0 : decode cX11_isSlot 0 = .ok (.iload_n 0, 1) := by decide +kernel
theorem dX11_isSlot_1 : decode cX11_isSlot 1 = .ok (.ifCond .lt 13, 3) := by decide +kernel
theorem dX11_isSlot_4 : decode cX11_isSlot 4 = .ok (.iload_n 0, 1) := by decide +kernel
theorem dX11_isSlot_5 : decode cX11_isSlot 5 = .ok (.bipush 10, 2) := by decide +kernel
theorem dX11_isSlot_7 : decode cX11_isSlot 7 = .ok (.if_icmp .ge 7, 3) := by decide +kernel
theorem dX11_isSlot_10 : decode cX11_isSlot 10 = .ok (.iconst 1, 1) := by decide +kernel
theorem dX11_isSlot_11 : decode cX11_isSlot 11 = .ok (.goto 4, 3) := by decide +kernel
theorem dX11_isSlot_14 : decode cX11_isSlot 14 = .ok (.iconst 0, 1) := by decide +kernel
theorem dX11_isSlot_15 : decode cX11_isSlot 15 = .ok (.ireturn, 1) := by decide +kernel
theorem dX11_isView_0 : decode cX11_isView 0 = .ok (.iload_n 0, 1) := by decide +kernel
theorem dX11_isView_1 : decode cX11_isView 1 = .ok (.ifCond .lt 13, 3) := by decide +kernel
theorem dX11_isView_4 : decode cX11_isView 4 = .ok (.iload_n 0, 1) := by decide +kernel
theorem dX11_isView_5 : decode cX11_isView 5 = .ok (.bipush 8, 2) := by decide +kernel
theorem dX11_isView_7 : decode cX11_isView 7 = .ok (.if_icmp .gt 7, 3) := by decide +kernel
theorem dX11_isView_10 : decode cX11_isView 10 = .ok (.iconst 1, 1) := by decide +kernel
theorem dX11_isView_11 : decode cX11_isView 11 = .ok (.goto 4, 3) := by decide +kernel
theorem dX11_isView_14 : decode cX11_isView 14 = .ok (.iconst 0, 1) := by decide +kernel
theorem dX11_isView_15 : decode cX11_isView 15 = .ok (.ireturn, 1) := by decide +kernel
theorem dX11_isNumberKind_0 : decode cX11_isNumberKind 0 = .ok (.iload_n 0, 1) := by decide +kernel
theorem dX11_isNumberKind_1 : decode cX11_isNumberKind 1 = .ok (.ifCond .lt 13, 3) := by decide +kernel
theorem dX11_isNumberKind_4 : decode cX11_isNumberKind 4 = .ok (.iload_n 0, 1) := by decide +kernel
theorem dX11_isNumberKind_5 : decode cX11_isNumberKind 5 = .ok (.bipush 7, 2) := by decide +kernel
theorem dX11_isNumberKind_7 : decode cX11_isNumberKind 7 = .ok (.if_icmp .gt 7, 3) := by decide +kernel
theorem dX11_isNumberKind_10 : decode cX11_isNumberKind 10 = .ok (.iconst 1, 1) := by decide +kernel
theorem dX11_isNumberKind_11 : decode cX11_isNumberKind 11 = .ok (.goto 4, 3) := by decide +kernel
theorem dX11_isNumberKind_14 : decode cX11_isNumberKind 14 = .ok (.iconst 0, 1) := by decide +kernel
theorem dX11_isNumberKind_15 : decode cX11_isNumberKind 15 = .ok (.ireturn, 1) := by decide +kernel
theorem dX11_isBoxKind_0 : decode cX11_isBoxKind 0 = .ok (.iload_n 0, 1) := by decide +kernel
theorem dX11_isBoxKind_1 : decode cX11_isBoxKind 1 = .ok (.ifCond .lt 13, 3) := by decide +kernel
theorem dX11_isBoxKind_4 : decode cX11_isBoxKind 4 = .ok (.iload_n 0, 1) := by decide +kernel
theorem dX11_isBoxKind_5 : decode cX11_isBoxKind 5 = .ok (.bipush 10, 2) := by decide +kernel
theorem dX11_isBoxKind_7 : decode cX11_isBoxKind 7 = .ok (.if_icmp .gt 7, 3) := by decide +kernel
theorem dX11_isBoxKind_10 : decode cX11_isBoxKind 10 = .ok (.iconst 1, 1) := by decide +kernel
theorem dX11_isBoxKind_11 : decode cX11_isBoxKind 11 = .ok (.goto 4, 3) := by decide +kernel
theorem dX11_isBoxKind_14 : decode cX11_isBoxKind 14 = .ok (.iconst 0, 1) := by decide +kernel
theorem dX11_isBoxKind_15 : decode cX11_isBoxKind 15 = .ok (.ireturn, 1) := by decide +kernel
theorem dX11_isWordLength_0 : decode cX11_isWordLength 0 = .ok (.lload_n 0, 1) := by decide +kernel
theorem dX11_isWordLength_1 : decode cX11_isWordLength 1 = .ok (.lconst 0, 1) := by decide +kernel
theorem dX11_isWordLength_2 : decode cX11_isWordLength 2 = .ok (.lcmp, 1) := by decide +kernel
theorem dX11_isWordLength_3 : decode cX11_isWordLength 3 = .ok (.ifCond .lt 15, 3) := by decide +kernel
theorem dX11_isWordLength_6 : decode cX11_isWordLength 6 = .ok (.lload_n 0, 1) := by decide +kernel
theorem dX11_isWordLength_7 : decode cX11_isWordLength 7 = .ok (.ldc2_w 364, 3) := by decide +kernel
theorem dX11_isWordLength_10 : decode cX11_isWordLength 10 = .ok (.lcmp, 1) := by decide +kernel
theorem dX11_isWordLength_11 : decode cX11_isWordLength 11 = .ok (.ifCond .gt 7, 3) := by decide +kernel
theorem dX11_isWordLength_14 : decode cX11_isWordLength 14 = .ok (.iconst 1, 1) := by decide +kernel
theorem dX11_isWordLength_15 : decode cX11_isWordLength 15 = .ok (.goto 4, 3) := by decide +kernel
theorem dX11_isWordLength_18 : decode cX11_isWordLength 18 = .ok (.iconst 0, 1) := by decide +kernel
theorem dX11_isWordLength_19 : decode cX11_isWordLength 19 = .ok (.ireturn, 1) := by decide +kernel
theorem dX11_isBoxable_0 : decode cX11_isBoxable 0 = .ok (.iload_n 0, 1) := by decide +kernel
theorem dX11_isBoxable_1 : decode cX11_isBoxable 1 = .ok (.bipush 10, 2) := by decide +kernel
theorem dX11_isBoxable_3 : decode cX11_isBoxable 3 = .ok (.if_icmp .ne 10, 3) := by decide +kernel
theorem dX11_isBoxable_6 : decode cX11_isBoxable 6 = .ok (.lload_n 1, 1) := by decide +kernel
theorem dX11_isBoxable_7 : decode cX11_isBoxable 7 = .ok (.invokestatic 101, 3) := by decide +kernel
theorem dX11_isBoxable_10 : decode cX11_isBoxable 10 = .ok (.ifCond .eq 7, 3) := by decide +kernel
theorem dX11_isBoxable_13 : decode cX11_isBoxable 13 = .ok (.iconst 1, 1) := by decide +kernel
theorem dX11_isBoxable_14 : decode cX11_isBoxable 14 = .ok (.goto 4, 3) := by decide +kernel
theorem dX11_isBoxable_17 : decode cX11_isBoxable 17 = .ok (.iconst 0, 1) := by decide +kernel
theorem dX11_isBoxable_18 : decode cX11_isBoxable 18 = .ok (.ireturn, 1) := by decide +kernel
theorem dX11_readCell_0 : decode cX11_readCell 0 = .ok (.aload_n 0, 1) := by decide +kernel
theorem dX11_readCell_1 : decode cX11_readCell 1 = .ok (.getfield 59, 3) := by decide +kernel
theorem dX11_readCell_4 : decode cX11_readCell 4 = .ok (.iload_n 1, 1) := by decide +kernel
theorem dX11_readCell_5 : decode cX11_readCell 5 = .ok (.invokevirtual 84, 3) := by decide +kernel
theorem dX11_readCell_8 : decode cX11_readCell 8 = .ok (.astore 5, 2) := by decide +kernel
theorem dX11_readCell_10 : decode cX11_readCell 10 = .ok (.aload 5, 2) := by decide +kernel
theorem dX11_readCell_12 : decode cX11_readCell 12 = .ok (.ifnonnull 12, 3) := by decide +kernel
theorem dX11_readCell_15 : decode cX11_readCell 15 = .ok (.aload_n 0, 1) := by decide +kernel
theorem dX11_readCell_16 : decode cX11_readCell 16 = .ok (.getfield 59, 3) := by decide +kernel
theorem dX11_readCell_19 : decode cX11_readCell 19 = .ok (.iload_n 1, 1) := by decide +kernel
theorem dX11_readCell_20 : decode cX11_readCell 20 = .ok (.invokevirtual 116, 3) := by decide +kernel
theorem dX11_readCell_23 : decode cX11_readCell 23 = .ok (.ireturn, 1) := by decide +kernel
theorem dX11_readCell_24 : decode cX11_readCell 24 = .ok (.iload_n 3, 1) := by decide +kernel
theorem dX11_readCell_25 : decode cX11_readCell 25 = .ok (.bipush 8, 2) := by decide +kernel
theorem dX11_readCell_27 : decode cX11_readCell 27 = .ok (.if_icmp .eq 16, 3) := by decide +kernel
theorem dX11_readCell_30 : decode cX11_readCell 30 = .ok (.aload 5, 2) := by decide +kernel
theorem dX11_readCell_32 : decode cX11_readCell 32 = .ok (.getfield 272, 3) := by decide +kernel
theorem dX11_readCell_35 : decode cX11_readCell 35 = .ok (.bipush 8, 2) := by decide +kernel
theorem dX11_readCell_37 : decode cX11_readCell 37 = .ok (.if_icmp .lt 6, 3) := by decide +kernel
theorem dX11_readCell_40 : decode cX11_readCell 40 = .ok (.bipush (-12), 2) := by decide +kernel
theorem dX11_readCell_42 : decode cX11_readCell 42 = .ok (.ireturn, 1) := by decide +kernel
theorem dX11_readCell_43 : decode cX11_readCell 43 = .ok (.aload 5, 2) := by decide +kernel
theorem dX11_readCell_45 : decode cX11_readCell 45 = .ok (.iload_n 2, 1) := by decide +kernel
theorem dX11_readCell_46 : decode cX11_readCell 46 = .ok (.invokevirtual 366, 3) := by decide +kernel
theorem dX11_readCell_49 : decode cX11_readCell 49 = .ok (.ifCond .ne 6, 3) := by decide +kernel
theorem dX11_readCell_52 : decode cX11_readCell 52 = .ok (.bipush (-13), 2) := by decide +kernel
theorem dX11_readCell_54 : decode cX11_readCell 54 = .ok (.ireturn, 1) := by decide +kernel
theorem dX11_readCell_55 : decode cX11_readCell 55 = .ok (.iload_n 3, 1) := by decide +kernel
theorem dX11_readCell_56 : decode cX11_readCell 56 = .ok (.bipush 8, 2) := by decide +kernel
theorem dX11_readCell_58 : decode cX11_readCell 58 = .ok (.if_icmp .ne 22, 3) := by decide +kernel
theorem dX11_readCell_61 : decode cX11_readCell 61 = .ok (.aload 4, 2) := by decide +kernel
theorem dX11_readCell_63 : decode cX11_readCell 63 = .ok (.aload 5, 2) := by decide +kernel
theorem dX11_readCell_65 : decode cX11_readCell 65 = .ok (.iload_n 2, 1) := by decide +kernel
theorem dX11_readCell_66 : decode cX11_readCell 66 = .ok (.invokevirtual 369, 3) := by decide +kernel
theorem dX11_readCell_69 : decode cX11_readCell 69 = .ok (.aload 5, 2) := by decide +kernel
theorem dX11_readCell_71 : decode cX11_readCell 71 = .ok (.iload_n 2, 1) := by decide +kernel
theorem dX11_readCell_72 : decode cX11_readCell 72 = .ok (.invokevirtual 280, 3) := by decide +kernel
theorem dX11_readCell_75 : decode cX11_readCell 75 = .ok (.invokevirtual 167, 3) := by decide +kernel
theorem dX11_readCell_78 : decode cX11_readCell 78 = .ok (.iconst 1, 1) := by decide +kernel
theorem dX11_readCell_79 : decode cX11_readCell 79 = .ok (.ireturn, 1) := by decide +kernel
theorem dX11_readCell_80 : decode cX11_readCell 80 = .ok (.aload 5, 2) := by decide +kernel
theorem dX11_readCell_82 : decode cX11_readCell 82 = .ok (.getfield 272, 3) := by decide +kernel
theorem dX11_readCell_85 : decode cX11_readCell 85 = .ok (.iload_n 3, 1) := by decide +kernel
theorem dX11_readCell_86 : decode cX11_readCell 86 = .ok (.invokestatic 273, 3) := by decide +kernel
theorem dX11_readCell_89 : decode cX11_readCell 89 = .ok (.ifCond .ne 6, 3) := by decide +kernel
theorem dX11_readCell_92 : decode cX11_readCell 92 = .ok (.bipush (-12), 2) := by decide +kernel
theorem dX11_readCell_94 : decode cX11_readCell 94 = .ok (.ireturn, 1) := by decide +kernel
theorem dX11_readCell_95 : decode cX11_readCell 95 = .ok (.aload 4, 2) := by decide +kernel
theorem dX11_readCell_97 : decode cX11_readCell 97 = .ok (.iload_n 3, 1) := by decide +kernel
theorem dX11_readCell_98 : decode cX11_readCell 98 = .ok (.aload 5, 2) := by decide +kernel
theorem dX11_readCell_100 : decode cX11_readCell 100 = .ok (.getfield 272, 3) := by decide +kernel
theorem dX11_readCell_103 : decode cX11_readCell 103 = .ok (.aload 5, 2) := by decide +kernel
theorem dX11_readCell_105 : decode cX11_readCell 105 = .ok (.iload_n 2, 1) := by decide +kernel
theorem dX11_readCell_106 : decode cX11_readCell 106 = .ok (.invokevirtual 280, 3) := by decide +kernel
theorem dX11_readCell_109 : decode cX11_readCell 109 = .ok (.iload_n 3, 1) := by decide +kernel
theorem dX11_readCell_110 : decode cX11_readCell 110 = .ok (.invokestatic 284, 3) := by decide +kernel
theorem dX11_readCell_113 : decode cX11_readCell 113 = .ok (.invokevirtual 167, 3) := by decide +kernel
theorem dX11_readCell_116 : decode cX11_readCell 116 = .ok (.iconst 1, 1) := by decide +kernel
theorem dX11_readCell_117 : decode cX11_readCell 117 = .ok (.ireturn, 1) := by decide +kernel
theorem dX11_putCell_0 : decode cX11_putCell 0 = .ok (.aload_n 0, 1) := by decide +kernel
theorem dX11_putCell_1 : decode cX11_putCell 1 = .ok (.getfield 59, 3) := by decide +kernel
theorem dX11_putCell_4 : decode cX11_putCell 4 = .ok (.iload_n 1, 1) := by decide +kernel
theorem dX11_putCell_5 : decode cX11_putCell 5 = .ok (.invokevirtual 84, 3) := by decide +kernel
theorem dX11_putCell_8 : decode cX11_putCell 8 = .ok (.astore 5, 2) := by decide +kernel
theorem dX11_putCell_10 : decode cX11_putCell 10 = .ok (.aload 5, 2) := by decide +kernel
theorem dX11_putCell_12 : decode cX11_putCell 12 = .ok (.ifnonnull 12, 3) := by decide +kernel
theorem dX11_putCell_15 : decode cX11_putCell 15 = .ok (.aload_n 0, 1) := by decide +kernel
theorem dX11_putCell_16 : decode cX11_putCell 16 = .ok (.getfield 59, 3) := by decide +kernel
theorem dX11_putCell_19 : decode cX11_putCell 19 = .ok (.iload_n 1, 1) := by decide +kernel
theorem dX11_putCell_20 : decode cX11_putCell 20 = .ok (.invokevirtual 116, 3) := by decide +kernel
theorem dX11_putCell_23 : decode cX11_putCell 23 = .ok (.ireturn, 1) := by decide +kernel
theorem dX11_putCell_24 : decode cX11_putCell 24 = .ok (.iload_n 3, 1) := by decide +kernel
theorem dX11_putCell_25 : decode cX11_putCell 25 = .ok (.bipush 8, 2) := by decide +kernel
theorem dX11_putCell_27 : decode cX11_putCell 27 = .ok (.if_icmp .eq 16, 3) := by decide +kernel
theorem dX11_putCell_30 : decode cX11_putCell 30 = .ok (.aload 5, 2) := by decide +kernel
theorem dX11_putCell_32 : decode cX11_putCell 32 = .ok (.getfield 272, 3) := by decide +kernel
theorem dX11_putCell_35 : decode cX11_putCell 35 = .ok (.bipush 8, 2) := by decide +kernel
theorem dX11_putCell_37 : decode cX11_putCell 37 = .ok (.if_icmp .lt 6, 3) := by decide +kernel
theorem dX11_putCell_40 : decode cX11_putCell 40 = .ok (.bipush (-12), 2) := by decide +kernel
theorem dX11_putCell_42 : decode cX11_putCell 42 = .ok (.ireturn, 1) := by decide +kernel
theorem dX11_putCell_43 : decode cX11_putCell 43 = .ok (.aload 5, 2) := by decide +kernel
theorem dX11_putCell_45 : decode cX11_putCell 45 = .ok (.getfield 272, 3) := by decide +kernel
theorem dX11_putCell_48 : decode cX11_putCell 48 = .ok (.bipush 8, 2) := by decide +kernel
theorem dX11_putCell_50 : decode cX11_putCell 50 = .ok (.if_icmp .ge 16, 3) := by decide +kernel
theorem dX11_putCell_53 : decode cX11_putCell 53 = .ok (.aload 4, 2) := by decide +kernel
theorem dX11_putCell_55 : decode cX11_putCell 55 = .ok (.getfield 143, 3) := by decide +kernel
theorem dX11_putCell_58 : decode cX11_putCell 58 = .ok (.bipush 8, 2) := by decide +kernel
theorem dX11_putCell_60 : decode cX11_putCell 60 = .ok (.if_icmp .ne 6, 3) := by decide +kernel
theorem dX11_putCell_63 : decode cX11_putCell 63 = .ok (.bipush (-12), 2) := by decide +kernel
theorem dX11_putCell_65 : decode cX11_putCell 65 = .ok (.ireturn, 1) := by decide +kernel
theorem dX11_putCell_66 : decode cX11_putCell 66 = .ok (.aload 5, 2) := by decide +kernel
theorem dX11_putCell_68 : decode cX11_putCell 68 = .ok (.iload_n 2, 1) := by decide +kernel
theorem dX11_putCell_69 : decode cX11_putCell 69 = .ok (.invokevirtual 366, 3) := by decide +kernel
theorem dX11_putCell_72 : decode cX11_putCell 72 = .ok (.ifCond .ne 6, 3) := by decide +kernel
theorem dX11_putCell_75 : decode cX11_putCell 75 = .ok (.bipush (-13), 2) := by decide +kernel
theorem dX11_putCell_77 : decode cX11_putCell 77 = .ok (.ireturn, 1) := by decide +kernel
theorem dX11_putCell_78 : decode cX11_putCell 78 = .ok (.aload 5, 2) := by decide +kernel
theorem dX11_putCell_80 : decode cX11_putCell 80 = .ok (.aload 4, 2) := by decide +kernel
theorem dX11_putCell_82 : decode cX11_putCell 82 = .ok (.getfield 143, 3) := by decide +kernel
theorem dX11_putCell_85 : decode cX11_putCell 85 = .ok (.invokevirtual 277, 3) := by decide +kernel
theorem dX11_putCell_88 : decode cX11_putCell 88 = .ok (.ifCond .ne 6, 3) := by decide +kernel
theorem dX11_putCell_91 : decode cX11_putCell 91 = .ok (.bipush (-12), 2) := by decide +kernel
theorem dX11_putCell_93 : decode cX11_putCell 93 = .ok (.ireturn, 1) := by decide +kernel
theorem dX11_putCell_94 : decode cX11_putCell 94 = .ok (.aload 5, 2) := by decide +kernel
theorem dX11_putCell_96 : decode cX11_putCell 96 = .ok (.getfield 272, 3) := by decide +kernel
theorem dX11_putCell_99 : decode cX11_putCell 99 = .ok (.bipush 8, 2) := by decide +kernel
theorem dX11_putCell_101 : decode cX11_putCell 101 = .ok (.if_icmp .ge 39, 3) := by decide +kernel
theorem dX11_putCell_104 : decode cX11_putCell 104 = .ok (.aload_n 0, 1) := by decide +kernel
theorem dX11_putCell_105 : decode cX11_putCell 105 = .ok (.getfield 38, 3) := by decide +kernel
theorem dX11_putCell_108 : decode cX11_putCell 108 = .ok (.aload 5, 2) := by decide +kernel
theorem dX11_putCell_110 : decode cX11_putCell 110 = .ok (.iload_n 2, 1) := by decide +kernel
theorem dX11_putCell_111 : decode cX11_putCell 111 = .ok (.aload 5, 2) := by decide +kernel
theorem dX11_putCell_113 : decode cX11_putCell 113 = .ok (.getfield 272, 3) := by decide +kernel
theorem dX11_putCell_116 : decode cX11_putCell 116 = .ok (.aload 4, 2) := by decide +kernel
theorem dX11_putCell_118 : decode cX11_putCell 118 = .ok (.getfield 143, 3) := by decide +kernel
theorem dX11_putCell_121 : decode cX11_putCell 121 = .ok (.aload 4, 2) := by decide +kernel
theorem dX11_putCell_123 : decode cX11_putCell 123 = .ok (.getfield 146, 3) := by decide +kernel
theorem dX11_putCell_126 : decode cX11_putCell 126 = .ok (.aload 5, 2) := by decide +kernel
theorem dX11_putCell_128 : decode cX11_putCell 128 = .ok (.getfield 272, 3) := by decide +kernel
theorem dX11_putCell_131 : decode cX11_putCell 131 = .ok (.invokestatic 284, 3) := by decide +kernel
theorem dX11_putCell_134 : decode cX11_putCell 134 = .ok (.invokevirtual 372, 3) := by decide +kernel
theorem dX11_putCell_137 : decode cX11_putCell 137 = .ok (.goto 23, 3) := by decide +kernel
theorem dX11_putCell_140 : decode cX11_putCell 140 = .ok (.aload_n 0, 1) := by decide +kernel
theorem dX11_putCell_141 : decode cX11_putCell 141 = .ok (.getfield 38, 3) := by decide +kernel
theorem dX11_putCell_144 : decode cX11_putCell 144 = .ok (.aload 5, 2) := by decide +kernel
theorem dX11_putCell_146 : decode cX11_putCell 146 = .ok (.iload_n 2, 1) := by decide +kernel
theorem dX11_putCell_147 : decode cX11_putCell 147 = .ok (.aload 4, 2) := by decide +kernel
theorem dX11_putCell_149 : decode cX11_putCell 149 = .ok (.getfield 143, 3) := by decide +kernel
theorem dX11_putCell_152 : decode cX11_putCell 152 = .ok (.aload 4, 2) := by decide +kernel
theorem dX11_putCell_154 : decode cX11_putCell 154 = .ok (.getfield 146, 3) := by decide +kernel
theorem dX11_putCell_157 : decode cX11_putCell 157 = .ok (.invokevirtual 372, 3) := by decide +kernel
theorem dX11_putCell_160 : decode cX11_putCell 160 = .ok (.iconst 1, 1) := by decide +kernel
theorem dX11_putCell_161 : decode cX11_putCell 161 = .ok (.ireturn, 1) := by decide +kernel
theorem dX11_counted_0 : decode cX11_counted 0 = .ok (.bipush (-11), 2) := by decide +kernel
theorem dX11_counted_2 : decode cX11_counted 2 = .ok (.iload_n 1, 1) := by decide +kernel
theorem dX11_counted_3 : decode cX11_counted 3 = .ok (.isub, 1) := by decide +kernel
theorem dX11_counted_4 : decode cX11_counted 4 = .ok (.istore_n 2, 1) := by decide +kernel
theorem dX11_counted_5 : decode cX11_counted 5 = .ok (.iload_n 2, 1) := by decide +kernel
theorem dX11_counted_6 : decode cX11_counted 6 = .ok (.ifCond .lt 22, 3) := by decide +kernel
theorem dX11_counted_9 : decode cX11_counted 9 = .ok (.iload_n 2, 1) := by decide +kernel
theorem dX11_counted_10 : decode cX11_counted 10 = .ok (.aload_n 0, 1) := by decide +kernel
theorem dX11_counted_11 : decode cX11_counted 11 = .ok (.getfield 32, 3) := by decide +kernel
theorem dX11_counted_14 : decode cX11_counted 14 = .ok (.arraylength, 1) := by decide +kernel
theorem dX11_counted_15 : decode cX11_counted 15 = .ok (.if_icmp .ge 13, 3) := by decide +kernel
theorem dX11_counted_18 : decode cX11_counted 18 = .ok (.aload_n 0, 1) := by decide +kernel
theorem dX11_counted_19 : decode cX11_counted 19 = .ok (.getfield 32, 3) := by decide +kernel
theorem dX11_counted_22 : decode cX11_counted 22 = .ok (.iload_n 2, 1) := by decide +kernel
theorem dX11_counted_23 : decode cX11_counted 23 = .ok (.dup2, 1) := by decide +kernel
theorem dX11_counted_24 : decode cX11_counted 24 = .ok (.iaload, 1) := by decide +kernel
theorem dX11_counted_25 : decode cX11_counted 25 = .ok (.iconst 1, 1) := by decide +kernel
theorem dX11_counted_26 : decode cX11_counted 26 = .ok (.iadd, 1) := by decide +kernel
theorem dX11_counted_27 : decode cX11_counted 27 = .ok (.iastore, 1) := by decide +kernel
theorem dX11_counted_28 : decode cX11_counted 28 = .ok (.iload_n 1, 1) := by decide +kernel
theorem dX11_counted_29 : decode cX11_counted 29 = .ok (.ireturn, 1) := by decide +kernel
theorem dX11_refusalCount_0 : decode cX11_refusalCount 0 = .ok (.iload_n 1, 1) := by decide +kernel
theorem dX11_refusalCount_1 : decode cX11_refusalCount 1 = .ok (.ifCond .lt 21, 3) := by decide +kernel
theorem dX11_refusalCount_4 : decode cX11_refusalCount 4 = .ok (.iload_n 1, 1) := by decide +kernel
theorem dX11_refusalCount_5 : decode cX11_refusalCount 5 = .ok (.aload_n 0, 1) := by decide +kernel
theorem dX11_refusalCount_6 : decode cX11_refusalCount 6 = .ok (.getfield 32, 3) := by decide +kernel
theorem dX11_refusalCount_9 : decode cX11_refusalCount 9 = .ok (.arraylength, 1) := by decide +kernel
theorem dX11_refusalCount_10 : decode cX11_refusalCount 10 = .ok (.if_icmp .ge 12, 3) := by decide +kernel
theorem dX11_refusalCount_13 : decode cX11_refusalCount 13 = .ok (.aload_n 0, 1) := by decide +kernel
theorem dX11_refusalCount_14 : decode cX11_refusalCount 14 = .ok (.getfield 32, 3) := by decide +kernel
theorem dX11_refusalCount_17 : decode cX11_refusalCount 17 = .ok (.iload_n 1, 1) := by decide +kernel
theorem dX11_refusalCount_18 : decode cX11_refusalCount 18 = .ok (.iaload, 1) := by decide +kernel
theorem dX11_refusalCount_19 : decode cX11_refusalCount 19 = .ok (.goto 4, 3) := by decide +kernel
theorem dX11_refusalCount_22 : decode cX11_refusalCount 22 = .ok (.iconst (-1), 1) := by decide +kernel
theorem dX11_refusalCount_23 : decode cX11_refusalCount 23 = .ok (.ireturn, 1) := by decide +kernel
theorem dX11_settledAlone_0 : decode cX11_settledAlone 0 = .ok (.aload_n 0, 1) := by decide +kernel
theorem dX11_settledAlone_1 : decode cX11_settledAlone 1 = .ok (.getfield 38, 3) := by decide +kernel
theorem dX11_settledAlone_4 : decode cX11_settledAlone 4 = .ok (.invokevirtual 376, 3) := by decide +kernel
theorem dX11_settledAlone_7 : decode cX11_settledAlone 7 = .ok (.aload_n 0, 1) := by decide +kernel
theorem dX11_settledAlone_8 : decode cX11_settledAlone 8 = .ok (.iload_n 1, 1) := by decide +kernel
theorem dX11_settledAlone_9 : decode cX11_settledAlone 9 = .ok (.invokevirtual 140, 3) := by decide +kernel
theorem dX11_settledAlone_12 : decode cX11_settledAlone 12 = .ok (.ireturn, 1) := by decide +kernel
theorem dX11_release_0 : decode cX11_release 0 = .ok (.aload_n 1, 1) := by decide +kernel
theorem dX11_release_1 : decode cX11_release 1 = .ok (.ifnull 22, 3) := by decide +kernel
theorem dX11_release_4 : decode cX11_release 4 = .ok (.aload_n 0, 1) := by decide +kernel
theorem dX11_release_5 : decode cX11_release 5 = .ok (.getfield 59, 3) := by decide +kernel
theorem dX11_release_8 : decode cX11_release 8 = .ok (.aload_n 1, 1) := by decide +kernel
theorem dX11_release_9 : decode cX11_release 9 = .ok (.invokevirtual 123, 3) := by decide +kernel
theorem dX11_release_12 : decode cX11_release 12 = .ok (.ifCond .ne 11, 3) := by decide +kernel
theorem dX11_release_15 : decode cX11_release 15 = .ok (.aload_n 0, 1) := by decide +kernel
theorem dX11_release_16 : decode cX11_release 16 = .ok (.getfield 38, 3) := by decide +kernel
theorem dX11_release_19 : decode cX11_release 19 = .ok (.aload_n 1, 1) := by decide +kernel
theorem dX11_release_20 : decode cX11_release 20 = .ok (.invokevirtual 379, 3) := by decide +kernel
theorem dX11_release_23 : decode cX11_release 23 = .ok (.return_, 1) := by decide +kernel
theorem dX11_readThrough_0 : decode cX11_readThrough 0 = .ok (.aload_n 1, 1) := by decide +kernel
theorem dX11_readThrough_1 : decode cX11_readThrough 1 = .ok (.iload_n 2, 1) := by decide +kernel
theorem dX11_readThrough_2 : decode cX11_readThrough 2 = .ok (.invokevirtual 382, 3) := by decide +kernel
theorem dX11_readThrough_5 : decode cX11_readThrough 5 = .ok (.ifCond .eq 22, 3) := by decide +kernel
theorem dX11_readThrough_8 : decode cX11_readThrough 8 = .ok (.aload_n 0, 1) := by decide +kernel
theorem dX11_readThrough_9 : decode cX11_readThrough 9 = .ok (.aload_n 1, 1) := by decide +kernel
theorem dX11_readThrough_10 : decode cX11_readThrough 10 = .ok (.getfield 197, 3) := by decide +kernel
theorem dX11_readThrough_13 : decode cX11_readThrough 13 = .ok (.aload_n 1, 1) := by decide +kernel
theorem dX11_readThrough_14 : decode cX11_readThrough 14 = .ok (.iload_n 2, 1) := by decide +kernel
theorem dX11_readThrough_15 : decode cX11_readThrough 15 = .ok (.invokevirtual 383, 3) := by decide +kernel
theorem dX11_readThrough_18 : decode cX11_readThrough 18 = .ok (.iload_n 3, 1) := by decide +kernel
theorem dX11_readThrough_19 : decode cX11_readThrough 19 = .ok (.aload 4, 2) := by decide +kernel
theorem dX11_readThrough_21 : decode cX11_readThrough 21 = .ok (.invokevirtual 136, 3) := by decide +kernel
theorem dX11_readThrough_24 : decode cX11_readThrough 24 = .ok (.goto 5, 3) := by decide +kernel
theorem dX11_readThrough_27 : decode cX11_readThrough 27 = .ok (.bipush (-13), 2) := by decide +kernel
theorem dX11_readThrough_29 : decode cX11_readThrough 29 = .ok (.ireturn, 1) := by decide +kernel
theorem dX11_putThrough_0 : decode cX11_putThrough 0 = .ok (.aload_n 1, 1) := by decide +kernel
theorem dX11_putThrough_1 : decode cX11_putThrough 1 = .ok (.iload_n 2, 1) := by decide +kernel
theorem dX11_putThrough_2 : decode cX11_putThrough 2 = .ok (.invokevirtual 382, 3) := by decide +kernel
theorem dX11_putThrough_5 : decode cX11_putThrough 5 = .ok (.ifCond .eq 22, 3) := by decide +kernel
theorem dX11_putThrough_8 : decode cX11_putThrough 8 = .ok (.aload_n 0, 1) := by decide +kernel
theorem dX11_putThrough_9 : decode cX11_putThrough 9 = .ok (.aload_n 1, 1) := by decide +kernel
theorem dX11_putThrough_10 : decode cX11_putThrough 10 = .ok (.getfield 197, 3) := by decide +kernel
theorem dX11_putThrough_13 : decode cX11_putThrough 13 = .ok (.aload_n 1, 1) := by decide +kernel
theorem dX11_putThrough_14 : decode cX11_putThrough 14 = .ok (.iload_n 2, 1) := by decide +kernel
theorem dX11_putThrough_15 : decode cX11_putThrough 15 = .ok (.invokevirtual 383, 3) := by decide +kernel
theorem dX11_putThrough_18 : decode cX11_putThrough 18 = .ok (.iload_n 3, 1) := by decide +kernel
theorem dX11_putThrough_19 : decode cX11_putThrough 19 = .ok (.aload 4, 2) := by decide +kernel
theorem dX11_putThrough_21 : decode cX11_putThrough 21 = .ok (.invokevirtual 171, 3) := by decide +kernel
theorem dX11_putThrough_24 : decode cX11_putThrough 24 = .ok (.goto 5, 3) := by decide +kernel
theorem dX11_putThrough_27 : decode cX11_putThrough 27 = .ok (.bipush (-13), 2) := by decide +kernel
theorem dX11_putThrough_29 : decode cX11_putThrough 29 = .ok (.ireturn, 1) := by decide +kernel
theorem dX11_whyNoAmount_0 : decode cX11_whyNoAmount 0 = .ok (.aload_n 0, 1) := by decide +kernel
theorem dX11_whyNoAmount_1 : decode cX11_whyNoAmount 1 = .ok (.aload_n 1, 1) := by decide +kernel
theorem dX11_whyNoAmount_2 : decode cX11_whyNoAmount 2 = .ok (.iload_n 2, 1) := by decide +kernel
theorem dX11_whyNoAmount_3 : decode cX11_whyNoAmount 3 = .ok (.aload_n 1, 1) := by decide +kernel
theorem dX11_whyNoAmount_4 : decode cX11_whyNoAmount 4 = .ok (.getfield 209, 3) := by decide +kernel
theorem dX11_whyNoAmount_7 : decode cX11_whyNoAmount 7 = .ok (.aload_n 0, 1) := by decide +kernel
theorem dX11_whyNoAmount_8 : decode cX11_whyNoAmount 8 = .ok (.getfield 18, 3) := by decide +kernel
theorem dX11_whyNoAmount_11 : decode cX11_whyNoAmount 11 = .ok (.invokevirtual 212, 3) := by decide +kernel
theorem dX11_whyNoAmount_14 : decode cX11_whyNoAmount 14 = .ok (.istore_n 3, 1) := by decide +kernel
theorem dX11_whyNoAmount_15 : decode cX11_whyNoAmount 15 = .ok (.iload_n 3, 1) := by decide +kernel
theorem dX11_whyNoAmount_16 : decode cX11_whyNoAmount 16 = .ok (.iconst 1, 1) := by decide +kernel
theorem dX11_whyNoAmount_17 : decode cX11_whyNoAmount 17 = .ok (.if_icmp .eq 5, 3) := by decide +kernel
theorem dX11_whyNoAmount_20 : decode cX11_whyNoAmount 20 = .ok (.iload_n 3, 1) := by decide +kernel
theorem dX11_whyNoAmount_21 : decode cX11_whyNoAmount 21 = .ok (.ireturn, 1) := by decide +kernel
theorem dX11_whyNoAmount_22 : decode cX11_whyNoAmount 22 = .ok (.aload_n 0, 1) := by decide +kernel
theorem dX11_whyNoAmount_23 : decode cX11_whyNoAmount 23 = .ok (.getfield 18, 3) := by decide +kernel
theorem dX11_whyNoAmount_26 : decode cX11_whyNoAmount 26 = .ok (.getfield 143, 3) := by decide +kernel
theorem dX11_whyNoAmount_29 : decode cX11_whyNoAmount 29 = .ok (.invokestatic 150, 3) := by decide +kernel
theorem dX11_whyNoAmount_32 : decode cX11_whyNoAmount 32 = .ok (.ifCond .eq 7, 3) := by decide +kernel
theorem dX11_whyNoAmount_35 : decode cX11_whyNoAmount 35 = .ok (.iconst 1, 1) := by decide +kernel
theorem dX11_whyNoAmount_36 : decode cX11_whyNoAmount 36 = .ok (.goto 5, 3) := by decide +kernel
theorem dX11_whyNoAmount_39 : decode cX11_whyNoAmount 39 = .ok (.bipush (-12), 2) := by decide +kernel
theorem dX11_whyNoAmount_41 : decode cX11_whyNoAmount 41 = .ok (.ireturn, 1) := by decide +kernel
theorem dX11_faultPlace_0 : decode cX11_faultPlace 0 = .ok (.iconst 0, 1) := by decide +kernel
theorem dX11_faultPlace_1 : decode cX11_faultPlace 1 = .ok (.istore_n 2, 1) := by decide +kernel
theorem dX11_faultPlace_2 : decode cX11_faultPlace 2 = .ok (.iload_n 2, 1) := by decide +kernel
theorem dX11_faultPlace_3 : decode cX11_faultPlace 3 = .ok (.aload_n 1, 1) := by decide +kernel
theorem dX11_faultPlace_4 : decode cX11_faultPlace 4 = .ok (.getfield 206, 3) := by decide +kernel
theorem dX11_faultPlace_7 : decode cX11_faultPlace 7 = .ok (.if_icmp .ge 21, 3) := by decide +kernel
theorem dX11_faultPlace_10 : decode cX11_faultPlace 10 = .ok (.aload_n 0, 1) := by decide +kernel
theorem dX11_faultPlace_11 : decode cX11_faultPlace 11 = .ok (.aload_n 1, 1) := by decide +kernel
theorem dX11_faultPlace_12 : decode cX11_faultPlace 12 = .ok (.iload_n 2, 1) := by decide +kernel
theorem dX11_faultPlace_13 : decode cX11_faultPlace 13 = .ok (.invokevirtual 220, 3) := by decide +kernel
theorem dX11_faultPlace_16 : decode cX11_faultPlace 16 = .ok (.iconst 1, 1) := by decide +kernel
theorem dX11_faultPlace_17 : decode cX11_faultPlace 17 = .ok (.if_icmp .eq 5, 3) := by decide +kernel
theorem dX11_faultPlace_20 : decode cX11_faultPlace 20 = .ok (.iload_n 2, 1) := by decide +kernel
theorem dX11_faultPlace_21 : decode cX11_faultPlace 21 = .ok (.ireturn, 1) := by decide +kernel
theorem dX11_faultPlace_22 : decode cX11_faultPlace 22 = .ok (.iinc 2 1, 3) := by decide +kernel
theorem dX11_faultPlace_25 : decode cX11_faultPlace 25 = .ok (.goto (-23), 3) := by decide +kernel
theorem dX11_faultPlace_28 : decode cX11_faultPlace 28 = .ok (.bipush (-5), 2) := by decide +kernel
theorem dX11_faultPlace_30 : decode cX11_faultPlace 30 = .ok (.ireturn, 1) := by decide +kernel
theorem dX11_rankCells_0 : decode cX11_rankCells 0 = .ok (.iconst 0, 1) := by decide +kernel
theorem dX11_rankCells_1 : decode cX11_rankCells 1 = .ok (.istore_n 2, 1) := by decide +kernel
theorem dX11_rankCells_2 : decode cX11_rankCells 2 = .ok (.iconst 0, 1) := by decide +kernel
theorem dX11_rankCells_3 : decode cX11_rankCells 3 = .ok (.istore_n 3, 1) := by decide +kernel
theorem dX11_rankCells_4 : decode cX11_rankCells 4 = .ok (.iload_n 3, 1) := by decide +kernel
theorem dX11_rankCells_5 : decode cX11_rankCells 5 = .ok (.aload_n 1, 1) := by decide +kernel
theorem dX11_rankCells_6 : decode cX11_rankCells 6 = .ok (.getfield 206, 3) := by decide +kernel
theorem dX11_rankCells_9 : decode cX11_rankCells 9 = .ok (.if_icmp .ge 62, 3) := by decide +kernel
theorem dX11_rankCells_12 : decode cX11_rankCells 12 = .ok (.iload_n 3, 1) := by decide +kernel
theorem dX11_rankCells_13 : decode cX11_rankCells 13 = .ok (.aload_n 0, 1) := by decide +kernel
theorem dX11_rankCells_14 : decode cX11_rankCells 14 = .ok (.getfield 24, 3) := by decide +kernel
theorem dX11_rankCells_17 : decode cX11_rankCells 17 = .ok (.arraylength, 1) := by decide +kernel
theorem dX11_rankCells_18 : decode cX11_rankCells 18 = .ok (.if_icmp .ge 53, 3) := by decide +kernel
theorem dX11_rankCells_21 : decode cX11_rankCells 21 = .ok (.aload_n 0, 1) := by decide +kernel
theorem dX11_rankCells_22 : decode cX11_rankCells 22 = .ok (.aload_n 1, 1) := by decide +kernel
theorem dX11_rankCells_23 : decode cX11_rankCells 23 = .ok (.iload_n 3, 1) := by decide +kernel
theorem dX11_rankCells_24 : decode cX11_rankCells 24 = .ok (.aload_n 1, 1) := by decide +kernel
theorem dX11_rankCells_25 : decode cX11_rankCells 25 = .ok (.getfield 209, 3) := by decide +kernel
theorem dX11_rankCells_28 : decode cX11_rankCells 28 = .ok (.aload_n 0, 1) := by decide +kernel
theorem dX11_rankCells_29 : decode cX11_rankCells 29 = .ok (.getfield 18, 3) := by decide +kernel
theorem dX11_rankCells_32 : decode cX11_rankCells 32 = .ok (.invokevirtual 212, 3) := by decide +kernel
theorem dX11_rankCells_35 : decode cX11_rankCells 35 = .ok (.iconst 1, 1) := by decide +kernel
theorem dX11_rankCells_36 : decode cX11_rankCells 36 = .ok (.if_icmp .ne 29, 3) := by decide +kernel
theorem dX11_rankCells_39 : decode cX11_rankCells 39 = .ok (.aload_n 0, 1) := by decide +kernel
theorem dX11_rankCells_40 : decode cX11_rankCells 40 = .ok (.getfield 24, 3) := by decide +kernel
theorem dX11_rankCells_43 : decode cX11_rankCells 43 = .ok (.iload_n 3, 1) := by decide +kernel
theorem dX11_rankCells_44 : decode cX11_rankCells 44 = .ok (.aload_n 0, 1) := by decide +kernel
theorem dX11_rankCells_45 : decode cX11_rankCells 45 = .ok (.getfield 18, 3) := by decide +kernel
theorem dX11_rankCells_48 : decode cX11_rankCells 48 = .ok (.getfield 143, 3) := by decide +kernel
theorem dX11_rankCells_51 : decode cX11_rankCells 51 = .ok (.aload_n 0, 1) := by decide +kernel
theorem dX11_rankCells_52 : decode cX11_rankCells 52 = .ok (.getfield 18, 3) := by decide +kernel
theorem dX11_rankCells_55 : decode cX11_rankCells 55 = .ok (.getfield 146, 3) := by decide +kernel
theorem dX11_rankCells_58 : decode cX11_rankCells 58 = .ok (.invokestatic 384, 3) := by decide +kernel
theorem dX11_rankCells_61 : decode cX11_rankCells 61 = .ok (.lastore, 1) := by decide +kernel
theorem dX11_rankCells_62 : decode cX11_rankCells 62 = .ok (.iinc 2 1, 3) := by decide +kernel
theorem dX11_rankCells_65 : decode cX11_rankCells 65 = .ok (.iinc 3 1, 3) := by decide +kernel
theorem dX11_rankCells_68 : decode cX11_rankCells 68 = .ok (.goto (-64), 3) := by decide +kernel
theorem dX11_rankCells_71 : decode cX11_rankCells 71 = .ok (.iload_n 2, 1) := by decide +kernel
theorem dX11_rankCells_72 : decode cX11_rankCells 72 = .ok (.ireturn, 1) := by decide +kernel
theorem dX11_cellsAheadOf_0 : decode cX11_cellsAheadOf 0 = .ok (.iconst 0, 1) := by decide +kernel
theorem dX11_cellsAheadOf_1 : decode cX11_cellsAheadOf 1 = .ok (.istore_n 3, 1) := by decide +kernel
theorem dX11_cellsAheadOf_2 : decode cX11_cellsAheadOf 2 = .ok (.iload_n 1, 1) := by decide +kernel
theorem dX11_cellsAheadOf_3 : decode cX11_cellsAheadOf 3 = .ok (.ifCond .lt 12, 3) := by decide +kernel
theorem dX11_cellsAheadOf_6 : decode cX11_cellsAheadOf 6 = .ok (.iload_n 1, 1) := by decide +kernel
theorem dX11_cellsAheadOf_7 : decode cX11_cellsAheadOf 7 = .ok (.aload_n 0, 1) := by decide +kernel
theorem dX11_cellsAheadOf_8 : decode cX11_cellsAheadOf 8 = .ok (.getfield 24, 3) := by decide +kernel
theorem dX11_cellsAheadOf_11 : decode cX11_cellsAheadOf 11 = .ok (.arraylength, 1) := by decide +kernel
theorem dX11_cellsAheadOf_12 : decode cX11_cellsAheadOf 12 = .ok (.if_icmp .lt 5, 3) := by decide +kernel
theorem dX11_cellsAheadOf_15 : decode cX11_cellsAheadOf 15 = .ok (.iload_n 3, 1) := by decide +kernel
theorem dX11_cellsAheadOf_16 : decode cX11_cellsAheadOf 16 = .ok (.ireturn, 1) := by decide +kernel
theorem dX11_cellsAheadOf_17 : decode cX11_cellsAheadOf 17 = .ok (.aload_n 0, 1) := by decide +kernel
theorem dX11_cellsAheadOf_18 : decode cX11_cellsAheadOf 18 = .ok (.getfield 24, 3) := by decide +kernel
theorem dX11_cellsAheadOf_21 : decode cX11_cellsAheadOf 21 = .ok (.iload_n 1, 1) := by decide +kernel
theorem dX11_cellsAheadOf_22 : decode cX11_cellsAheadOf 22 = .ok (.laload, 1) := by decide +kernel
theorem dX11_cellsAheadOf_23 : decode cX11_cellsAheadOf 23 = .ok (.lstore 4, 2) := by decide +kernel
theorem dX11_cellsAheadOf_25 : decode cX11_cellsAheadOf 25 = .ok (.iconst 0, 1) := by decide +kernel
theorem dX11_cellsAheadOf_26 : decode cX11_cellsAheadOf 26 = .ok (.istore 6, 2) := by decide +kernel
theorem dX11_cellsAheadOf_28 : decode cX11_cellsAheadOf 28 = .ok (.iload 6, 2) := by decide +kernel
theorem dX11_cellsAheadOf_30 : decode cX11_cellsAheadOf 30 = .ok (.iload_n 2, 1) := by decide +kernel
theorem dX11_cellsAheadOf_31 : decode cX11_cellsAheadOf 31 = .ok (.if_icmp .ge 54, 3) := by decide +kernel
theorem dX11_cellsAheadOf_34 : decode cX11_cellsAheadOf 34 = .ok (.iload 6, 2) := by decide +kernel
theorem dX11_cellsAheadOf_36 : decode cX11_cellsAheadOf 36 = .ok (.aload_n 0, 1) := by decide +kernel
theorem dX11_cellsAheadOf_37 : decode cX11_cellsAheadOf 37 = .ok (.getfield 24, 3) := by decide +kernel
theorem dX11_cellsAheadOf_40 : decode cX11_cellsAheadOf 40 = .ok (.arraylength, 1) := by decide +kernel
theorem dX11_cellsAheadOf_41 : decode cX11_cellsAheadOf 41 = .ok (.if_icmp .ge 44, 3) := by decide +kernel
theorem dX11_cellsAheadOf_44 : decode cX11_cellsAheadOf 44 = .ok (.aload_n 0, 1) := by decide +kernel
theorem dX11_cellsAheadOf_45 : decode cX11_cellsAheadOf 45 = .ok (.getfield 24, 3) := by decide +kernel
theorem dX11_cellsAheadOf_48 : decode cX11_cellsAheadOf 48 = .ok (.iload 6, 2) := by decide +kernel
theorem dX11_cellsAheadOf_50 : decode cX11_cellsAheadOf 50 = .ok (.laload, 1) := by decide +kernel
theorem dX11_cellsAheadOf_51 : decode cX11_cellsAheadOf 51 = .ok (.lload 4, 2) := by decide +kernel
theorem dX11_cellsAheadOf_53 : decode cX11_cellsAheadOf 53 = .ok (.lcmp, 1) := by decide +kernel
theorem dX11_cellsAheadOf_54 : decode cX11_cellsAheadOf 54 = .ok (.ifCond .lt 22, 3) := by decide +kernel
theorem dX11_cellsAheadOf_57 : decode cX11_cellsAheadOf 57 = .ok (.aload_n 0, 1) := by decide +kernel
theorem dX11_cellsAheadOf_58 : decode cX11_cellsAheadOf 58 = .ok (.getfield 24, 3) := by decide +kernel
theorem dX11_cellsAheadOf_61 : decode cX11_cellsAheadOf 61 = .ok (.iload 6, 2) := by decide +kernel
theorem dX11_cellsAheadOf_63 : decode cX11_cellsAheadOf 63 = .ok (.laload, 1) := by decide +kernel
theorem dX11_cellsAheadOf_64 : decode cX11_cellsAheadOf 64 = .ok (.lload 4, 2) := by decide +kernel
theorem dX11_cellsAheadOf_66 : decode cX11_cellsAheadOf 66 = .ok (.lcmp, 1) := by decide +kernel
theorem dX11_cellsAheadOf_67 : decode cX11_cellsAheadOf 67 = .ok (.ifCond .ne 12, 3) := by decide +kernel
theorem dX11_cellsAheadOf_70 : decode cX11_cellsAheadOf 70 = .ok (.iload 6, 2) := by decide +kernel
theorem dX11_cellsAheadOf_72 : decode cX11_cellsAheadOf 72 = .ok (.iload_n 1, 1) := by decide +kernel
theorem dX11_cellsAheadOf_73 : decode cX11_cellsAheadOf 73 = .ok (.if_icmp .ge 6, 3) := by decide +kernel
theorem dX11_cellsAheadOf_76 : decode cX11_cellsAheadOf 76 = .ok (.iinc 3 1, 3) := by decide +kernel
theorem dX11_cellsAheadOf_79 : decode cX11_cellsAheadOf 79 = .ok (.iinc 6 1, 3) := by decide +kernel
theorem dX11_cellsAheadOf_82 : decode cX11_cellsAheadOf 82 = .ok (.goto (-54), 3) := by decide +kernel
theorem dX11_cellsAheadOf_85 : decode cX11_cellsAheadOf 85 = .ok (.iload_n 3, 1) := by decide +kernel
theorem dX11_cellsAheadOf_86 : decode cX11_cellsAheadOf 86 = .ok (.ireturn, 1) := by decide +kernel
theorem dX11_refusedMove_0 : decode cX11_refusedMove 0 = .ok (.aload_n 0, 1) := by decide +kernel
theorem dX11_refusedMove_1 : decode cX11_refusedMove 1 = .ok (.getfield 38, 3) := by decide +kernel
theorem dX11_refusedMove_4 : decode cX11_refusedMove 4 = .ok (.invokevirtual 387, 3) := by decide +kernel
theorem dX11_refusedMove_7 : decode cX11_refusedMove 7 = .ok (.aload_n 0, 1) := by decide +kernel
theorem dX11_refusedMove_8 : decode cX11_refusedMove 8 = .ok (.iconst 1, 1) := by decide +kernel
theorem dX11_refusedMove_9 : decode cX11_refusedMove 9 = .ok (.putfield 66, 3) := by decide +kernel
theorem dX11_refusedMove_12 : decode cX11_refusedMove 12 = .ok (.aload_n 0, 1) := by decide +kernel
theorem dX11_refusedMove_13 : decode cX11_refusedMove 13 = .ok (.iload_n 1, 1) := by decide +kernel
theorem dX11_refusedMove_14 : decode cX11_refusedMove 14 = .ok (.putfield 70, 3) := by decide +kernel
theorem dX11_refusedMove_17 : decode cX11_refusedMove 17 = .ok (.aload_n 0, 1) := by decide +kernel
theorem dX11_refusedMove_18 : decode cX11_refusedMove 18 = .ok (.iload_n 2, 1) := by decide +kernel
theorem dX11_refusedMove_19 : decode cX11_refusedMove 19 = .ok (.putfield 74, 3) := by decide +kernel
theorem dX11_refusedMove_22 : decode cX11_refusedMove 22 = .ok (.aload_n 0, 1) := by decide +kernel
theorem dX11_refusedMove_23 : decode cX11_refusedMove 23 = .ok (.iload_n 3, 1) := by decide +kernel
theorem dX11_refusedMove_24 : decode cX11_refusedMove 24 = .ok (.putfield 77, 3) := by decide +kernel
theorem dX11_refusedMove_27 : decode cX11_refusedMove 27 = .ok (.bipush (-100), 2) := by decide +kernel
theorem dX11_refusedMove_29 : decode cX11_refusedMove 29 = .ok (.iload_n 1, 1) := by decide +kernel
theorem dX11_refusedMove_30 : decode cX11_refusedMove 30 = .ok (.isub, 1) := by decide +kernel
theorem dX11_refusedMove_31 : decode cX11_refusedMove 31 = .ok (.ireturn, 1) := by decide +kernel
theorem dX11_settledMove_0 : decode cX11_settledMove 0 = .ok (.aload_n 0, 1) := by decide +kernel
theorem dX11_settledMove_1 : decode cX11_settledMove 1 = .ok (.getfield 38, 3) := by decide +kernel
theorem dX11_settledMove_4 : decode cX11_settledMove 4 = .ok (.invokevirtual 376, 3) := by decide +kernel
theorem dX11_settledMove_7 : decode cX11_settledMove 7 = .ok (.iload_n 1, 1) := by decide +kernel
theorem dX11_settledMove_8 : decode cX11_settledMove 8 = .ok (.ireturn, 1) := by decide +kernel
theorem dX11_copyInTurn_0 : decode cX11_copyInTurn 0 = .ok (.iconst 0, 1) := by decide +kernel
theorem dX11_copyInTurn_1 : decode cX11_copyInTurn 1 = .ok (.istore_n 3, 1) := by decide +kernel
theorem dX11_copyInTurn_2 : decode cX11_copyInTurn 2 = .ok (.iload_n 3, 1) := by decide +kernel
theorem dX11_copyInTurn_3 : decode cX11_copyInTurn 3 = .ok (.aload_n 1, 1) := by decide +kernel
theorem dX11_copyInTurn_4 : decode cX11_copyInTurn 4 = .ok (.getfield 206, 3) := by decide +kernel
theorem dX11_copyInTurn_7 : decode cX11_copyInTurn 7 = .ok (.if_icmp .ge 71, 3) := by decide +kernel
theorem dX11_copyInTurn_10 : decode cX11_copyInTurn 10 = .ok (.aload_n 0, 1) := by decide +kernel
theorem dX11_copyInTurn_11 : decode cX11_copyInTurn 11 = .ok (.aload_n 1, 1) := by decide +kernel
theorem dX11_copyInTurn_12 : decode cX11_copyInTurn 12 = .ok (.iload_n 3, 1) := by decide +kernel
theorem dX11_copyInTurn_13 : decode cX11_copyInTurn 13 = .ok (.aload_n 1, 1) := by decide +kernel
theorem dX11_copyInTurn_14 : decode cX11_copyInTurn 14 = .ok (.getfield 209, 3) := by decide +kernel
theorem dX11_copyInTurn_17 : decode cX11_copyInTurn 17 = .ok (.aload_n 0, 1) := by decide +kernel
theorem dX11_copyInTurn_18 : decode cX11_copyInTurn 18 = .ok (.getfield 18, 3) := by decide +kernel
theorem dX11_copyInTurn_21 : decode cX11_copyInTurn 21 = .ok (.invokevirtual 212, 3) := by decide +kernel
theorem dX11_copyInTurn_24 : decode cX11_copyInTurn 24 = .ok (.istore 4, 2) := by decide +kernel
theorem dX11_copyInTurn_26 : decode cX11_copyInTurn 26 = .ok (.iload 4, 2) := by decide +kernel
theorem dX11_copyInTurn_28 : decode cX11_copyInTurn 28 = .ok (.iconst 1, 1) := by decide +kernel
theorem dX11_copyInTurn_29 : decode cX11_copyInTurn 29 = .ok (.if_icmp .eq 12, 3) := by decide +kernel
theorem dX11_copyInTurn_32 : decode cX11_copyInTurn 32 = .ok (.aload_n 0, 1) := by decide +kernel
theorem dX11_copyInTurn_33 : decode cX11_copyInTurn 33 = .ok (.iload_n 3, 1) := by decide +kernel
theorem dX11_copyInTurn_34 : decode cX11_copyInTurn 34 = .ok (.iconst 0, 1) := by decide +kernel
theorem dX11_copyInTurn_35 : decode cX11_copyInTurn 35 = .ok (.iload 4, 2) := by decide +kernel
theorem dX11_copyInTurn_37 : decode cX11_copyInTurn 37 = .ok (.invokevirtual 252, 3) := by decide +kernel
theorem dX11_copyInTurn_40 : decode cX11_copyInTurn 40 = .ok (.ireturn, 1) := by decide +kernel
theorem dX11_copyInTurn_41 : decode cX11_copyInTurn 41 = .ok (.aload_n 0, 1) := by decide +kernel
theorem dX11_copyInTurn_42 : decode cX11_copyInTurn 42 = .ok (.aload_n 2, 1) := by decide +kernel
theorem dX11_copyInTurn_43 : decode cX11_copyInTurn 43 = .ok (.iload_n 3, 1) := by decide +kernel
theorem dX11_copyInTurn_44 : decode cX11_copyInTurn 44 = .ok (.aload_n 1, 1) := by decide +kernel
theorem dX11_copyInTurn_45 : decode cX11_copyInTurn 45 = .ok (.getfield 209, 3) := by decide +kernel
theorem dX11_copyInTurn_48 : decode cX11_copyInTurn 48 = .ok (.aload_n 0, 1) := by decide +kernel
theorem dX11_copyInTurn_49 : decode cX11_copyInTurn 49 = .ok (.getfield 18, 3) := by decide +kernel
theorem dX11_copyInTurn_52 : decode cX11_copyInTurn 52 = .ok (.invokevirtual 249, 3) := by decide +kernel
theorem dX11_copyInTurn_55 : decode cX11_copyInTurn 55 = .ok (.istore 4, 2) := by decide +kernel
theorem dX11_copyInTurn_57 : decode cX11_copyInTurn 57 = .ok (.iload 4, 2) := by decide +kernel
theorem dX11_copyInTurn_59 : decode cX11_copyInTurn 59 = .ok (.iconst 1, 1) := by decide +kernel
theorem dX11_copyInTurn_60 : decode cX11_copyInTurn 60 = .ok (.if_icmp .eq 12, 3) := by decide +kernel
theorem dX11_copyInTurn_63 : decode cX11_copyInTurn 63 = .ok (.aload_n 0, 1) := by decide +kernel
theorem dX11_copyInTurn_64 : decode cX11_copyInTurn 64 = .ok (.iload_n 3, 1) := by decide +kernel
theorem dX11_copyInTurn_65 : decode cX11_copyInTurn 65 = .ok (.iconst 1, 1) := by decide +kernel
theorem dX11_copyInTurn_66 : decode cX11_copyInTurn 66 = .ok (.iload 4, 2) := by decide +kernel
theorem dX11_copyInTurn_68 : decode cX11_copyInTurn 68 = .ok (.invokevirtual 252, 3) := by decide +kernel
theorem dX11_copyInTurn_71 : decode cX11_copyInTurn 71 = .ok (.ireturn, 1) := by decide +kernel
theorem dX11_copyInTurn_72 : decode cX11_copyInTurn 72 = .ok (.iinc 3 1, 3) := by decide +kernel
theorem dX11_copyInTurn_75 : decode cX11_copyInTurn 75 = .ok (.goto (-73), 3) := by decide +kernel
theorem dX11_copyInTurn_78 : decode cX11_copyInTurn 78 = .ok (.aload_n 0, 1) := by decide +kernel
theorem dX11_copyInTurn_79 : decode cX11_copyInTurn 79 = .ok (.aload_n 1, 1) := by decide +kernel
theorem dX11_copyInTurn_80 : decode cX11_copyInTurn 80 = .ok (.getfield 206, 3) := by decide +kernel
theorem dX11_copyInTurn_83 : decode cX11_copyInTurn 83 = .ok (.invokevirtual 246, 3) := by decide +kernel
theorem dX11_copyInTurn_86 : decode cX11_copyInTurn 86 = .ok (.ireturn, 1) := by decide +kernel
theorem dX11_copyAtOnce_0 : decode cX11_copyAtOnce 0 = .ok (.iconst 0, 1) := by decide +kernel
theorem dX11_copyAtOnce_1 : decode cX11_copyAtOnce 1 = .ok (.istore_n 3, 1) := by decide +kernel
theorem dX11_copyAtOnce_2 : decode cX11_copyAtOnce 2 = .ok (.iload_n 3, 1) := by decide +kernel
theorem dX11_copyAtOnce_3 : decode cX11_copyAtOnce 3 = .ok (.aload_n 1, 1) := by decide +kernel
theorem dX11_copyAtOnce_4 : decode cX11_copyAtOnce 4 = .ok (.getfield 206, 3) := by decide +kernel
theorem dX11_copyAtOnce_7 : decode cX11_copyAtOnce 7 = .ok (.if_icmp .ge 72, 3) := by decide +kernel
theorem dX11_copyAtOnce_10 : decode cX11_copyAtOnce 10 = .ok (.iload_n 3, 1) := by decide +kernel
theorem dX11_copyAtOnce_11 : decode cX11_copyAtOnce 11 = .ok (.bipush 32, 2) := by decide +kernel
theorem dX11_copyAtOnce_13 : decode cX11_copyAtOnce 13 = .ok (.if_icmp .ge 66, 3) := by decide +kernel
theorem dX11_copyAtOnce_16 : decode cX11_copyAtOnce 16 = .ok (.aload_n 0, 1) := by decide +kernel
theorem dX11_copyAtOnce_17 : decode cX11_copyAtOnce 17 = .ok (.aload_n 1, 1) := by decide +kernel
theorem dX11_copyAtOnce_18 : decode cX11_copyAtOnce 18 = .ok (.iload_n 3, 1) := by decide +kernel
theorem dX11_copyAtOnce_19 : decode cX11_copyAtOnce 19 = .ok (.aload_n 1, 1) := by decide +kernel
theorem dX11_copyAtOnce_20 : decode cX11_copyAtOnce 20 = .ok (.getfield 209, 3) := by decide +kernel
theorem dX11_copyAtOnce_23 : decode cX11_copyAtOnce 23 = .ok (.aload_n 0, 1) := by decide +kernel
theorem dX11_copyAtOnce_24 : decode cX11_copyAtOnce 24 = .ok (.getfield 18, 3) := by decide +kernel
theorem dX11_copyAtOnce_27 : decode cX11_copyAtOnce 27 = .ok (.invokevirtual 212, 3) := by decide +kernel
theorem dX11_copyAtOnce_30 : decode cX11_copyAtOnce 30 = .ok (.istore 4, 2) := by decide +kernel
theorem dX11_copyAtOnce_32 : decode cX11_copyAtOnce 32 = .ok (.iload 4, 2) := by decide +kernel
theorem dX11_copyAtOnce_34 : decode cX11_copyAtOnce 34 = .ok (.iconst 1, 1) := by decide +kernel
theorem dX11_copyAtOnce_35 : decode cX11_copyAtOnce 35 = .ok (.if_icmp .eq 12, 3) := by decide +kernel
theorem dX11_copyAtOnce_38 : decode cX11_copyAtOnce 38 = .ok (.aload_n 0, 1) := by decide +kernel
theorem dX11_copyAtOnce_39 : decode cX11_copyAtOnce 39 = .ok (.iload_n 3, 1) := by decide +kernel
theorem dX11_copyAtOnce_40 : decode cX11_copyAtOnce 40 = .ok (.iconst 0, 1) := by decide +kernel
theorem dX11_copyAtOnce_41 : decode cX11_copyAtOnce 41 = .ok (.iload 4, 2) := by decide +kernel
theorem dX11_copyAtOnce_43 : decode cX11_copyAtOnce 43 = .ok (.invokevirtual 252, 3) := by decide +kernel
theorem dX11_copyAtOnce_46 : decode cX11_copyAtOnce 46 = .ok (.ireturn, 1) := by decide +kernel
theorem dX11_copyAtOnce_47 : decode cX11_copyAtOnce 47 = .ok (.aload_n 0, 1) := by decide +kernel
theorem dX11_copyAtOnce_48 : decode cX11_copyAtOnce 48 = .ok (.getfield 28, 3) := by decide +kernel
theorem dX11_copyAtOnce_51 : decode cX11_copyAtOnce 51 = .ok (.iload_n 3, 1) := by decide +kernel
theorem dX11_copyAtOnce_52 : decode cX11_copyAtOnce 52 = .ok (.aload_n 0, 1) := by decide +kernel
theorem dX11_copyAtOnce_53 : decode cX11_copyAtOnce 53 = .ok (.getfield 18, 3) := by decide +kernel
theorem dX11_copyAtOnce_56 : decode cX11_copyAtOnce 56 = .ok (.getfield 143, 3) := by decide +kernel
theorem dX11_copyAtOnce_59 : decode cX11_copyAtOnce 59 = .ok (.iastore, 1) := by decide +kernel
theorem dX11_copyAtOnce_60 : decode cX11_copyAtOnce 60 = .ok (.aload_n 0, 1) := by decide +kernel
theorem dX11_copyAtOnce_61 : decode cX11_copyAtOnce 61 = .ok (.getfield 24, 3) := by decide +kernel
theorem dX11_copyAtOnce_64 : decode cX11_copyAtOnce 64 = .ok (.iload_n 3, 1) := by decide +kernel
theorem dX11_copyAtOnce_65 : decode cX11_copyAtOnce 65 = .ok (.aload_n 0, 1) := by decide +kernel
theorem dX11_copyAtOnce_66 : decode cX11_copyAtOnce 66 = .ok (.getfield 18, 3) := by decide +kernel
theorem dX11_copyAtOnce_69 : decode cX11_copyAtOnce 69 = .ok (.getfield 146, 3) := by decide +kernel
theorem dX11_copyAtOnce_72 : decode cX11_copyAtOnce 72 = .ok (.lastore, 1) := by decide +kernel
theorem dX11_copyAtOnce_73 : decode cX11_copyAtOnce 73 = .ok (.iinc 3 1, 3) := by decide +kernel
theorem dX11_copyAtOnce_76 : decode cX11_copyAtOnce 76 = .ok (.goto (-74), 3) := by decide +kernel
theorem dX11_copyAtOnce_79 : decode cX11_copyAtOnce 79 = .ok (.iconst 0, 1) := by decide +kernel
theorem dX11_copyAtOnce_80 : decode cX11_copyAtOnce 80 = .ok (.istore_n 3, 1) := by decide +kernel
theorem dX11_copyAtOnce_81 : decode cX11_copyAtOnce 81 = .ok (.iload_n 3, 1) := by decide +kernel
theorem dX11_copyAtOnce_82 : decode cX11_copyAtOnce 82 = .ok (.aload_n 1, 1) := by decide +kernel
theorem dX11_copyAtOnce_83 : decode cX11_copyAtOnce 83 = .ok (.getfield 206, 3) := by decide +kernel
theorem dX11_copyAtOnce_86 : decode cX11_copyAtOnce 86 = .ok (.if_icmp .ge 65, 3) := by decide +kernel
theorem dX11_copyAtOnce_89 : decode cX11_copyAtOnce 89 = .ok (.iload_n 3, 1) := by decide +kernel
theorem dX11_copyAtOnce_90 : decode cX11_copyAtOnce 90 = .ok (.bipush 32, 2) := by decide +kernel
theorem dX11_copyAtOnce_92 : decode cX11_copyAtOnce 92 = .ok (.if_icmp .ge 59, 3) := by decide +kernel
theorem dX11_copyAtOnce_95 : decode cX11_copyAtOnce 95 = .ok (.aload_n 0, 1) := by decide +kernel
theorem dX11_copyAtOnce_96 : decode cX11_copyAtOnce 96 = .ok (.getfield 18, 3) := by decide +kernel
theorem dX11_copyAtOnce_99 : decode cX11_copyAtOnce 99 = .ok (.aload_n 0, 1) := by decide +kernel
theorem dX11_copyAtOnce_100 : decode cX11_copyAtOnce 100 = .ok (.getfield 28, 3) := by decide +kernel
theorem dX11_copyAtOnce_103 : decode cX11_copyAtOnce 103 = .ok (.iload_n 3, 1) := by decide +kernel
theorem dX11_copyAtOnce_104 : decode cX11_copyAtOnce 104 = .ok (.iaload, 1) := by decide +kernel
theorem dX11_copyAtOnce_105 : decode cX11_copyAtOnce 105 = .ok (.aload_n 0, 1) := by decide +kernel
theorem dX11_copyAtOnce_106 : decode cX11_copyAtOnce 106 = .ok (.getfield 24, 3) := by decide +kernel
theorem dX11_copyAtOnce_109 : decode cX11_copyAtOnce 109 = .ok (.iload_n 3, 1) := by decide +kernel
theorem dX11_copyAtOnce_110 : decode cX11_copyAtOnce 110 = .ok (.laload, 1) := by decide +kernel
theorem dX11_copyAtOnce_111 : decode cX11_copyAtOnce 111 = .ok (.invokevirtual 167, 3) := by decide +kernel
theorem dX11_copyAtOnce_114 : decode cX11_copyAtOnce 114 = .ok (.aload_n 0, 1) := by decide +kernel
theorem dX11_copyAtOnce_115 : decode cX11_copyAtOnce 115 = .ok (.aload_n 2, 1) := by decide +kernel
theorem dX11_copyAtOnce_116 : decode cX11_copyAtOnce 116 = .ok (.iload_n 3, 1) := by decide +kernel
theorem dX11_copyAtOnce_117 : decode cX11_copyAtOnce 117 = .ok (.aload_n 1, 1) := by decide +kernel
theorem dX11_copyAtOnce_118 : decode cX11_copyAtOnce 118 = .ok (.getfield 209, 3) := by decide +kernel
theorem dX11_copyAtOnce_121 : decode cX11_copyAtOnce 121 = .ok (.aload_n 0, 1) := by decide +kernel
theorem dX11_copyAtOnce_122 : decode cX11_copyAtOnce 122 = .ok (.getfield 18, 3) := by decide +kernel
theorem dX11_copyAtOnce_125 : decode cX11_copyAtOnce 125 = .ok (.invokevirtual 249, 3) := by decide +kernel
theorem dX11_copyAtOnce_128 : decode cX11_copyAtOnce 128 = .ok (.istore 4, 2) := by decide +kernel
theorem dX11_copyAtOnce_130 : decode cX11_copyAtOnce 130 = .ok (.iload 4, 2) := by decide +kernel
theorem dX11_copyAtOnce_132 : decode cX11_copyAtOnce 132 = .ok (.iconst 1, 1) := by decide +kernel
theorem dX11_copyAtOnce_133 : decode cX11_copyAtOnce 133 = .ok (.if_icmp .eq 12, 3) := by decide +kernel
theorem dX11_copyAtOnce_136 : decode cX11_copyAtOnce 136 = .ok (.aload_n 0, 1) := by decide +kernel
theorem dX11_copyAtOnce_137 : decode cX11_copyAtOnce 137 = .ok (.iload_n 3, 1) := by decide +kernel
theorem dX11_copyAtOnce_138 : decode cX11_copyAtOnce 138 = .ok (.iconst 1, 1) := by decide +kernel
theorem dX11_copyAtOnce_139 : decode cX11_copyAtOnce 139 = .ok (.iload 4, 2) := by decide +kernel
theorem dX11_copyAtOnce_141 : decode cX11_copyAtOnce 141 = .ok (.invokevirtual 252, 3) := by decide +kernel
theorem dX11_copyAtOnce_144 : decode cX11_copyAtOnce 144 = .ok (.ireturn, 1) := by decide +kernel
theorem dX11_copyAtOnce_145 : decode cX11_copyAtOnce 145 = .ok (.iinc 3 1, 3) := by decide +kernel
theorem dX11_copyAtOnce_148 : decode cX11_copyAtOnce 148 = .ok (.goto (-67), 3) := by decide +kernel
theorem dX11_copyAtOnce_151 : decode cX11_copyAtOnce 151 = .ok (.aload_n 0, 1) := by decide +kernel
theorem dX11_copyAtOnce_152 : decode cX11_copyAtOnce 152 = .ok (.aload_n 1, 1) := by decide +kernel
theorem dX11_copyAtOnce_153 : decode cX11_copyAtOnce 153 = .ok (.getfield 206, 3) := by decide +kernel
theorem dX11_copyAtOnce_156 : decode cX11_copyAtOnce 156 = .ok (.invokevirtual 246, 3) := by decide +kernel
theorem dX11_copyAtOnce_159 : decode cX11_copyAtOnce 159 = .ok (.ireturn, 1) := by decide +kernel
theorem dX11_swapCells_0 : decode cX11_swapCells 0 = .ok (.aload_n 0, 1) := by decide +kernel
theorem dX11_swapCells_1 : decode cX11_swapCells 1 = .ok (.aload_n 1, 1) := by decide +kernel
theorem dX11_swapCells_2 : decode cX11_swapCells 2 = .ok (.iload_n 3, 1) := by decide +kernel
theorem dX11_swapCells_3 : decode cX11_swapCells 3 = .ok (.bipush 8, 2) := by decide +kernel
theorem dX11_swapCells_5 : decode cX11_swapCells 5 = .ok (.aload_n 0, 1) := by decide +kernel
theorem dX11_swapCells_6 : decode cX11_swapCells 6 = .ok (.getfield 18, 3) := by decide +kernel
theorem dX11_swapCells_9 : decode cX11_swapCells 9 = .ok (.invokevirtual 212, 3) := by decide +kernel
theorem dX11_swapCells_12 : decode cX11_swapCells 12 = .ok (.istore 4, 2) := by decide +kernel
theorem dX11_swapCells_14 : decode cX11_swapCells 14 = .ok (.iload 4, 2) := by decide +kernel
theorem dX11_swapCells_16 : decode cX11_swapCells 16 = .ok (.iconst 1, 1) := by decide +kernel
theorem dX11_swapCells_17 : decode cX11_swapCells 17 = .ok (.if_icmp .eq 12, 3) := by decide +kernel
theorem dX11_swapCells_20 : decode cX11_swapCells 20 = .ok (.aload_n 0, 1) := by decide +kernel
theorem dX11_swapCells_21 : decode cX11_swapCells 21 = .ok (.iload_n 3, 1) := by decide +kernel
theorem dX11_swapCells_22 : decode cX11_swapCells 22 = .ok (.iconst 0, 1) := by decide +kernel
theorem dX11_swapCells_23 : decode cX11_swapCells 23 = .ok (.iload 4, 2) := by decide +kernel
theorem dX11_swapCells_25 : decode cX11_swapCells 25 = .ok (.invokevirtual 252, 3) := by decide +kernel
theorem dX11_swapCells_28 : decode cX11_swapCells 28 = .ok (.ireturn, 1) := by decide +kernel
theorem dX11_swapCells_29 : decode cX11_swapCells 29 = .ok (.aload_n 0, 1) := by decide +kernel
theorem dX11_swapCells_30 : decode cX11_swapCells 30 = .ok (.aload_n 2, 1) := by decide +kernel
theorem dX11_swapCells_31 : decode cX11_swapCells 31 = .ok (.iload_n 3, 1) := by decide +kernel
theorem dX11_swapCells_32 : decode cX11_swapCells 32 = .ok (.bipush 8, 2) := by decide +kernel
theorem dX11_swapCells_34 : decode cX11_swapCells 34 = .ok (.aload_n 0, 1) := by decide +kernel
theorem dX11_swapCells_35 : decode cX11_swapCells 35 = .ok (.getfield 21, 3) := by decide +kernel
theorem dX11_swapCells_38 : decode cX11_swapCells 38 = .ok (.invokevirtual 212, 3) := by decide +kernel
theorem dX11_swapCells_41 : decode cX11_swapCells 41 = .ok (.istore 4, 2) := by decide +kernel
theorem dX11_swapCells_43 : decode cX11_swapCells 43 = .ok (.iload 4, 2) := by decide +kernel
theorem dX11_swapCells_45 : decode cX11_swapCells 45 = .ok (.iconst 1, 1) := by decide +kernel
theorem dX11_swapCells_46 : decode cX11_swapCells 46 = .ok (.if_icmp .eq 12, 3) := by decide +kernel
theorem dX11_swapCells_49 : decode cX11_swapCells 49 = .ok (.aload_n 0, 1) := by decide +kernel
theorem dX11_swapCells_50 : decode cX11_swapCells 50 = .ok (.iload_n 3, 1) := by decide +kernel
theorem dX11_swapCells_51 : decode cX11_swapCells 51 = .ok (.iconst 1, 1) := by decide +kernel
theorem dX11_swapCells_52 : decode cX11_swapCells 52 = .ok (.iload 4, 2) := by decide +kernel
theorem dX11_swapCells_54 : decode cX11_swapCells 54 = .ok (.invokevirtual 252, 3) := by decide +kernel
theorem dX11_swapCells_57 : decode cX11_swapCells 57 = .ok (.ireturn, 1) := by decide +kernel
theorem dX11_swapCells_58 : decode cX11_swapCells 58 = .ok (.aload_n 0, 1) := by decide +kernel
theorem dX11_swapCells_59 : decode cX11_swapCells 59 = .ok (.aload_n 2, 1) := by decide +kernel
theorem dX11_swapCells_60 : decode cX11_swapCells 60 = .ok (.iload_n 3, 1) := by decide +kernel
theorem dX11_swapCells_61 : decode cX11_swapCells 61 = .ok (.bipush 8, 2) := by decide +kernel
theorem dX11_swapCells_63 : decode cX11_swapCells 63 = .ok (.aload_n 0, 1) := by decide +kernel
theorem dX11_swapCells_64 : decode cX11_swapCells 64 = .ok (.getfield 18, 3) := by decide +kernel
theorem dX11_swapCells_67 : decode cX11_swapCells 67 = .ok (.invokevirtual 249, 3) := by decide +kernel
theorem dX11_swapCells_70 : decode cX11_swapCells 70 = .ok (.istore 4, 2) := by decide +kernel
theorem dX11_swapCells_72 : decode cX11_swapCells 72 = .ok (.iload 4, 2) := by decide +kernel
theorem dX11_swapCells_74 : decode cX11_swapCells 74 = .ok (.iconst 1, 1) := by decide +kernel
theorem dX11_swapCells_75 : decode cX11_swapCells 75 = .ok (.if_icmp .eq 12, 3) := by decide +kernel
theorem dX11_swapCells_78 : decode cX11_swapCells 78 = .ok (.aload_n 0, 1) := by decide +kernel
theorem dX11_swapCells_79 : decode cX11_swapCells 79 = .ok (.iload_n 3, 1) := by decide +kernel
theorem dX11_swapCells_80 : decode cX11_swapCells 80 = .ok (.iconst 2, 1) := by decide +kernel
theorem dX11_swapCells_81 : decode cX11_swapCells 81 = .ok (.iload 4, 2) := by decide +kernel
theorem dX11_swapCells_83 : decode cX11_swapCells 83 = .ok (.invokevirtual 252, 3) := by decide +kernel
theorem dX11_swapCells_86 : decode cX11_swapCells 86 = .ok (.ireturn, 1) := by decide +kernel
theorem dX11_swapCells_87 : decode cX11_swapCells 87 = .ok (.aload_n 0, 1) := by decide +kernel
theorem dX11_swapCells_88 : decode cX11_swapCells 88 = .ok (.aload_n 1, 1) := by decide +kernel
theorem dX11_swapCells_89 : decode cX11_swapCells 89 = .ok (.iload_n 3, 1) := by decide +kernel
theorem dX11_swapCells_90 : decode cX11_swapCells 90 = .ok (.bipush 8, 2) := by decide +kernel
theorem dX11_swapCells_92 : decode cX11_swapCells 92 = .ok (.aload_n 0, 1) := by decide +kernel
theorem dX11_swapCells_93 : decode cX11_swapCells 93 = .ok (.getfield 21, 3) := by decide +kernel
theorem dX11_swapCells_96 : decode cX11_swapCells 96 = .ok (.invokevirtual 249, 3) := by decide +kernel
theorem dX11_swapCells_99 : decode cX11_swapCells 99 = .ok (.istore 4, 2) := by decide +kernel
theorem dX11_swapCells_101 : decode cX11_swapCells 101 = .ok (.iload 4, 2) := by decide +kernel
theorem dX11_swapCells_103 : decode cX11_swapCells 103 = .ok (.iconst 1, 1) := by decide +kernel
theorem dX11_swapCells_104 : decode cX11_swapCells 104 = .ok (.if_icmp .eq 12, 3) := by decide +kernel
theorem dX11_swapCells_107 : decode cX11_swapCells 107 = .ok (.aload_n 0, 1) := by decide +kernel
theorem dX11_swapCells_108 : decode cX11_swapCells 108 = .ok (.iload_n 3, 1) := by decide +kernel
theorem dX11_swapCells_109 : decode cX11_swapCells 109 = .ok (.iconst 3, 1) := by decide +kernel
theorem dX11_swapCells_110 : decode cX11_swapCells 110 = .ok (.iload 4, 2) := by decide +kernel
theorem dX11_swapCells_112 : decode cX11_swapCells 112 = .ok (.invokevirtual 252, 3) := by decide +kernel
theorem dX11_swapCells_115 : decode cX11_swapCells 115 = .ok (.ireturn, 1) := by decide +kernel
theorem dX11_swapCells_116 : decode cX11_swapCells 116 = .ok (.iconst 1, 1) := by decide +kernel
theorem dX11_swapCells_117 : decode cX11_swapCells 117 = .ok (.ireturn, 1) := by decide +kernel
theorem dX11_runReading_0 : decode cX11_runReading 0 = .ok (.aload_n 0, 1) := by decide +kernel
theorem dX11_runReading_1 : decode cX11_runReading 1 = .ok (.aload_n 1, 1) := by decide +kernel
theorem dX11_runReading_2 : decode cX11_runReading 2 = .ok (.getfield 390, 3) := by decide +kernel
theorem dX11_runReading_5 : decode cX11_runReading 5 = .ok (.aload_n 1, 1) := by decide +kernel
theorem dX11_runReading_6 : decode cX11_runReading 6 = .ok (.getfield 393, 3) := by decide +kernel
theorem dX11_runReading_9 : decode cX11_runReading 9 = .ok (.aload_n 1, 1) := by decide +kernel
theorem dX11_runReading_10 : decode cX11_runReading 10 = .ok (.getfield 396, 3) := by decide +kernel
theorem dX11_runReading_13 : decode cX11_runReading 13 = .ok (.aload_n 0, 1) := by decide +kernel
theorem dX11_runReading_14 : decode cX11_runReading 14 = .ok (.getfield 18, 3) := by decide +kernel
theorem dX11_runReading_17 : decode cX11_runReading 17 = .ok (.invokevirtual 136, 3) := by decide +kernel
theorem dX11_runReading_20 : decode cX11_runReading 20 = .ok (.istore_n 3, 1) := by decide +kernel
theorem dX11_runReading_21 : decode cX11_runReading 21 = .ok (.iload_n 3, 1) := by decide +kernel
theorem dX11_runReading_22 : decode cX11_runReading 22 = .ok (.iconst 1, 1) := by decide +kernel
theorem dX11_runReading_23 : decode cX11_runReading 23 = .ok (.if_icmp .eq 11, 3) := by decide +kernel
theorem dX11_runReading_26 : decode cX11_runReading 26 = .ok (.aload_n 0, 1) := by decide +kernel
theorem dX11_runReading_27 : decode cX11_runReading 27 = .ok (.iload_n 2, 1) := by decide +kernel
theorem dX11_runReading_28 : decode cX11_runReading 28 = .ok (.iconst 0, 1) := by decide +kernel
theorem dX11_runReading_29 : decode cX11_runReading 29 = .ok (.iload_n 3, 1) := by decide +kernel
theorem dX11_runReading_30 : decode cX11_runReading 30 = .ok (.invokevirtual 252, 3) := by decide +kernel
theorem dX11_runReading_33 : decode cX11_runReading 33 = .ok (.ireturn, 1) := by decide +kernel
theorem dX11_runReading_34 : decode cX11_runReading 34 = .ok (.aload_n 0, 1) := by decide +kernel
theorem dX11_runReading_35 : decode cX11_runReading 35 = .ok (.aload_n 1, 1) := by decide +kernel
theorem dX11_runReading_36 : decode cX11_runReading 36 = .ok (.getfield 397, 3) := by decide +kernel
theorem dX11_runReading_39 : decode cX11_runReading 39 = .ok (.aload_n 1, 1) := by decide +kernel
theorem dX11_runReading_40 : decode cX11_runReading 40 = .ok (.getfield 398, 3) := by decide +kernel
theorem dX11_runReading_43 : decode cX11_runReading 43 = .ok (.aload_n 1, 1) := by decide +kernel
theorem dX11_runReading_44 : decode cX11_runReading 44 = .ok (.getfield 396, 3) := by decide +kernel
theorem dX11_runReading_47 : decode cX11_runReading 47 = .ok (.aload_n 0, 1) := by decide +kernel
theorem dX11_runReading_48 : decode cX11_runReading 48 = .ok (.getfield 18, 3) := by decide +kernel
theorem dX11_runReading_51 : decode cX11_runReading 51 = .ok (.invokevirtual 171, 3) := by decide +kernel
theorem dX11_runReading_54 : decode cX11_runReading 54 = .ok (.istore_n 3, 1) := by decide +kernel
theorem dX11_runReading_55 : decode cX11_runReading 55 = .ok (.iload_n 3, 1) := by decide +kernel
theorem dX11_runReading_56 : decode cX11_runReading 56 = .ok (.iconst 1, 1) := by decide +kernel
theorem dX11_runReading_57 : decode cX11_runReading 57 = .ok (.if_icmp .ne 7, 3) := by decide +kernel
theorem dX11_runReading_60 : decode cX11_runReading 60 = .ok (.iconst 1, 1) := by decide +kernel
theorem dX11_runReading_61 : decode cX11_runReading 61 = .ok (.goto 10, 3) := by decide +kernel
theorem dX11_runReading_64 : decode cX11_runReading 64 = .ok (.aload_n 0, 1) := by decide +kernel
theorem dX11_runReading_65 : decode cX11_runReading 65 = .ok (.iload_n 2, 1) := by decide +kernel
theorem dX11_runReading_66 : decode cX11_runReading 66 = .ok (.iconst 1, 1) := by decide +kernel
theorem dX11_runReading_67 : decode cX11_runReading 67 = .ok (.iload_n 3, 1) := by decide +kernel
theorem dX11_runReading_68 : decode cX11_runReading 68 = .ok (.invokevirtual 252, 3) := by decide +kernel
theorem dX11_runReading_71 : decode cX11_runReading 71 = .ok (.ireturn, 1) := by decide +kernel
theorem dX11_runBoxing_0 : decode cX11_runBoxing 0 = .ok (.aload_n 0, 1) := by decide +kernel
theorem dX11_runBoxing_1 : decode cX11_runBoxing 1 = .ok (.getfield 18, 3) := by decide +kernel
theorem dX11_runBoxing_4 : decode cX11_runBoxing 4 = .ok (.aload_n 1, 1) := by decide +kernel
theorem dX11_runBoxing_5 : decode cX11_runBoxing 5 = .ok (.getfield 401, 3) := by decide +kernel
theorem dX11_runBoxing_8 : decode cX11_runBoxing 8 = .ok (.aload_n 1, 1) := by decide +kernel
theorem dX11_runBoxing_9 : decode cX11_runBoxing 9 = .ok (.getfield 401, 3) := by decide +kernel
theorem dX11_runBoxing_12 : decode cX11_runBoxing 12 = .ok (.aload_n 1, 1) := by decide +kernel
theorem dX11_runBoxing_13 : decode cX11_runBoxing 13 = .ok (.getfield 402, 3) := by decide +kernel
theorem dX11_runBoxing_16 : decode cX11_runBoxing 16 = .ok (.i2l, 1) := by decide +kernel
theorem dX11_runBoxing_17 : decode cX11_runBoxing 17 = .ok (.invokestatic 164, 3) := by decide +kernel
theorem dX11_runBoxing_20 : decode cX11_runBoxing 20 = .ok (.invokevirtual 167, 3) := by decide +kernel
theorem dX11_runBoxing_23 : decode cX11_runBoxing 23 = .ok (.aload_n 0, 1) := by decide +kernel
theorem dX11_runBoxing_24 : decode cX11_runBoxing 24 = .ok (.aload_n 1, 1) := by decide +kernel
theorem dX11_runBoxing_25 : decode cX11_runBoxing 25 = .ok (.getfield 397, 3) := by decide +kernel
theorem dX11_runBoxing_28 : decode cX11_runBoxing 28 = .ok (.aload_n 1, 1) := by decide +kernel
theorem dX11_runBoxing_29 : decode cX11_runBoxing 29 = .ok (.getfield 398, 3) := by decide +kernel
theorem dX11_runBoxing_32 : decode cX11_runBoxing 32 = .ok (.bipush 8, 2) := by decide +kernel
theorem dX11_runBoxing_34 : decode cX11_runBoxing 34 = .ok (.aload_n 0, 1) := by decide +kernel
theorem dX11_runBoxing_35 : decode cX11_runBoxing 35 = .ok (.getfield 18, 3) := by decide +kernel
theorem dX11_runBoxing_38 : decode cX11_runBoxing 38 = .ok (.invokevirtual 171, 3) := by decide +kernel
theorem dX11_runBoxing_41 : decode cX11_runBoxing 41 = .ok (.istore_n 3, 1) := by decide +kernel
theorem dX11_runBoxing_42 : decode cX11_runBoxing 42 = .ok (.iload_n 3, 1) := by decide +kernel
theorem dX11_runBoxing_43 : decode cX11_runBoxing 43 = .ok (.iconst 1, 1) := by decide +kernel
theorem dX11_runBoxing_44 : decode cX11_runBoxing 44 = .ok (.if_icmp .ne 7, 3) := by decide +kernel
theorem dX11_runBoxing_47 : decode cX11_runBoxing 47 = .ok (.iconst 1, 1) := by decide +kernel
theorem dX11_runBoxing_48 : decode cX11_runBoxing 48 = .ok (.goto 10, 3) := by decide +kernel
theorem dX11_runBoxing_51 : decode cX11_runBoxing 51 = .ok (.aload_n 0, 1) := by decide +kernel
theorem dX11_runBoxing_52 : decode cX11_runBoxing 52 = .ok (.iload_n 2, 1) := by decide +kernel
theorem dX11_runBoxing_53 : decode cX11_runBoxing 53 = .ok (.iconst 1, 1) := by decide +kernel
theorem dX11_runBoxing_54 : decode cX11_runBoxing 54 = .ok (.iload_n 3, 1) := by decide +kernel
theorem dX11_runBoxing_55 : decode cX11_runBoxing 55 = .ok (.invokevirtual 252, 3) := by decide +kernel
theorem dX11_runBoxing_58 : decode cX11_runBoxing 58 = .ok (.ireturn, 1) := by decide +kernel
theorem dX11_firstUnlike_0 : decode cX11_firstUnlike 0 = .ok (.aload_n 1, 1) := by decide +kernel
theorem dX11_firstUnlike_1 : decode cX11_firstUnlike 1 = .ok (.invokevirtual 119, 3) := by decide +kernel
theorem dX11_firstUnlike_4 : decode cX11_firstUnlike 4 = .ok (.aload_n 2, 1) := by decide +kernel
theorem dX11_firstUnlike_5 : decode cX11_firstUnlike 5 = .ok (.invokevirtual 119, 3) := by decide +kernel
theorem dX11_firstUnlike_8 : decode cX11_firstUnlike 8 = .ok (.invokestatic 405, 3) := by decide +kernel
theorem dX11_firstUnlike_11 : decode cX11_firstUnlike 11 = .ok (.istore_n 3, 1) := by decide +kernel
theorem dX11_firstUnlike_12 : decode cX11_firstUnlike 12 = .ok (.iconst 0, 1) := by decide +kernel
theorem dX11_firstUnlike_13 : decode cX11_firstUnlike 13 = .ok (.istore 4, 2) := by decide +kernel
theorem dX11_firstUnlike_15 : decode cX11_firstUnlike 15 = .ok (.iload 4, 2) := by decide +kernel
theorem dX11_firstUnlike_17 : decode cX11_firstUnlike 17 = .ok (.iload_n 3, 1) := by decide +kernel
theorem dX11_firstUnlike_18 : decode cX11_firstUnlike 18 = .ok (.if_icmp .ge 64, 3) := by decide +kernel
theorem dX11_firstUnlike_21 : decode cX11_firstUnlike 21 = .ok (.aload_n 0, 1) := by decide +kernel
theorem dX11_firstUnlike_22 : decode cX11_firstUnlike 22 = .ok (.getfield 18, 3) := by decide +kernel
theorem dX11_firstUnlike_25 : decode cX11_firstUnlike 25 = .ok (.aload_n 1, 1) := by decide +kernel
theorem dX11_firstUnlike_26 : decode cX11_firstUnlike 26 = .ok (.iload 4, 2) := by decide +kernel
theorem dX11_firstUnlike_28 : decode cX11_firstUnlike 28 = .ok (.invokevirtual 369, 3) := by decide +kernel
theorem dX11_firstUnlike_31 : decode cX11_firstUnlike 31 = .ok (.aload_n 1, 1) := by decide +kernel
theorem dX11_firstUnlike_32 : decode cX11_firstUnlike 32 = .ok (.iload 4, 2) := by decide +kernel
theorem dX11_firstUnlike_34 : decode cX11_firstUnlike 34 = .ok (.invokevirtual 280, 3) := by decide +kernel
theorem dX11_firstUnlike_37 : decode cX11_firstUnlike 37 = .ok (.invokevirtual 167, 3) := by decide +kernel
theorem dX11_firstUnlike_40 : decode cX11_firstUnlike 40 = .ok (.aload_n 0, 1) := by decide +kernel
theorem dX11_firstUnlike_41 : decode cX11_firstUnlike 41 = .ok (.getfield 21, 3) := by decide +kernel
theorem dX11_firstUnlike_44 : decode cX11_firstUnlike 44 = .ok (.aload_n 2, 1) := by decide +kernel
theorem dX11_firstUnlike_45 : decode cX11_firstUnlike 45 = .ok (.iload 4, 2) := by decide +kernel
theorem dX11_firstUnlike_47 : decode cX11_firstUnlike 47 = .ok (.invokevirtual 369, 3) := by decide +kernel
theorem dX11_firstUnlike_50 : decode cX11_firstUnlike 50 = .ok (.aload_n 2, 1) := by decide +kernel
theorem dX11_firstUnlike_51 : decode cX11_firstUnlike 51 = .ok (.iload 4, 2) := by decide +kernel
theorem dX11_firstUnlike_53 : decode cX11_firstUnlike 53 = .ok (.invokevirtual 280, 3) := by decide +kernel
theorem dX11_firstUnlike_56 : decode cX11_firstUnlike 56 = .ok (.invokevirtual 167, 3) := by decide +kernel
theorem dX11_firstUnlike_59 : decode cX11_firstUnlike 59 = .ok (.aload_n 0, 1) := by decide +kernel
theorem dX11_firstUnlike_60 : decode cX11_firstUnlike 60 = .ok (.getfield 18, 3) := by decide +kernel
theorem dX11_firstUnlike_63 : decode cX11_firstUnlike 63 = .ok (.aload_n 0, 1) := by decide +kernel
theorem dX11_firstUnlike_64 : decode cX11_firstUnlike 64 = .ok (.getfield 21, 3) := by decide +kernel
theorem dX11_firstUnlike_67 : decode cX11_firstUnlike 67 = .ok (.invokestatic 231, 3) := by decide +kernel
theorem dX11_firstUnlike_70 : decode cX11_firstUnlike 70 = .ok (.ifCond .ne 6, 3) := by decide +kernel
theorem dX11_firstUnlike_73 : decode cX11_firstUnlike 73 = .ok (.iload 4, 2) := by decide +kernel
theorem dX11_firstUnlike_75 : decode cX11_firstUnlike 75 = .ok (.ireturn, 1) := by decide +kernel
theorem dX11_firstUnlike_76 : decode cX11_firstUnlike 76 = .ok (.iinc 4 1, 3) := by decide +kernel
theorem dX11_firstUnlike_79 : decode cX11_firstUnlike 79 = .ok (.goto (-64), 3) := by decide +kernel
theorem dX11_firstUnlike_82 : decode cX11_firstUnlike 82 = .ok (.aload_n 1, 1) := by decide +kernel
theorem dX11_firstUnlike_83 : decode cX11_firstUnlike 83 = .ok (.invokevirtual 119, 3) := by decide +kernel
theorem dX11_firstUnlike_86 : decode cX11_firstUnlike 86 = .ok (.aload_n 2, 1) := by decide +kernel
theorem dX11_firstUnlike_87 : decode cX11_firstUnlike 87 = .ok (.invokevirtual 119, 3) := by decide +kernel
theorem dX11_firstUnlike_90 : decode cX11_firstUnlike 90 = .ok (.if_icmp .ne 8, 3) := by decide +kernel
theorem dX11_firstUnlike_93 : decode cX11_firstUnlike 93 = .ok (.bipush (-5), 2) := by decide +kernel
theorem dX11_firstUnlike_95 : decode cX11_firstUnlike 95 = .ok (.goto 4, 3) := by decide +kernel
theorem dX11_firstUnlike_98 : decode cX11_firstUnlike 98 = .ok (.iload_n 3, 1) := by decide +kernel
theorem dX11_firstUnlike_99 : decode cX11_firstUnlike 99 = .ok (.ireturn, 1) := by decide +kernel
theorem dX11_digestOf_0 : decode cX11_digestOf 0 = .ok (.ldc2_w 410, 3) := by decide +kernel
theorem dX11_digestOf_3 : decode cX11_digestOf 3 = .ok (.lstore_n 2, 1) := by decide +kernel
theorem dX11_digestOf_4 : decode cX11_digestOf 4 = .ok (.aload_n 0, 1) := by decide +kernel
theorem dX11_digestOf_5 : decode cX11_digestOf 5 = .ok (.getfield 59, 3) := by decide +kernel
theorem dX11_digestOf_8 : decode cX11_digestOf 8 = .ok (.iload_n 1, 1) := by decide +kernel
theorem dX11_digestOf_9 : decode cX11_digestOf 9 = .ok (.invokevirtual 84, 3) := by decide +kernel
theorem dX11_digestOf_12 : decode cX11_digestOf 12 = .ok (.astore 4, 2) := by decide +kernel
theorem dX11_digestOf_14 : decode cX11_digestOf 14 = .ok (.aload 4, 2) := by decide +kernel
theorem dX11_digestOf_16 : decode cX11_digestOf 16 = .ok (.ifnull 83, 3) := by decide +kernel
theorem dX11_digestOf_19 : decode cX11_digestOf 19 = .ok (.ldc2_w 295, 3) := by decide +kernel
theorem dX11_digestOf_22 : decode cX11_digestOf 22 = .ok (.lload_n 2, 1) := by decide +kernel
theorem dX11_digestOf_23 : decode cX11_digestOf 23 = .ok (.lmul, 1) := by decide +kernel
theorem dX11_digestOf_24 : decode cX11_digestOf 24 = .ok (.ldc2_w 412, 3) := by decide +kernel
theorem dX11_digestOf_27 : decode cX11_digestOf 27 = .ok (.ladd, 1) := by decide +kernel
theorem dX11_digestOf_28 : decode cX11_digestOf 28 = .ok (.aload 4, 2) := by decide +kernel
theorem dX11_digestOf_30 : decode cX11_digestOf 30 = .ok (.getfield 272, 3) := by decide +kernel
theorem dX11_digestOf_33 : decode cX11_digestOf 33 = .ok (.i2l, 1) := by decide +kernel
theorem dX11_digestOf_34 : decode cX11_digestOf 34 = .ok (.ladd, 1) := by decide +kernel
theorem dX11_digestOf_35 : decode cX11_digestOf 35 = .ok (.lstore_n 2, 1) := by decide +kernel
theorem dX11_digestOf_36 : decode cX11_digestOf 36 = .ok (.ldc2_w 295, 3) := by decide +kernel
theorem dX11_digestOf_39 : decode cX11_digestOf 39 = .ok (.lload_n 2, 1) := by decide +kernel
theorem dX11_digestOf_40 : decode cX11_digestOf 40 = .ok (.lmul, 1) := by decide +kernel
theorem dX11_digestOf_41 : decode cX11_digestOf 41 = .ok (.aload 4, 2) := by decide +kernel
theorem dX11_digestOf_43 : decode cX11_digestOf 43 = .ok (.invokevirtual 119, 3) := by decide +kernel
theorem dX11_digestOf_46 : decode cX11_digestOf 46 = .ok (.i2l, 1) := by decide +kernel
theorem dX11_digestOf_47 : decode cX11_digestOf 47 = .ok (.ladd, 1) := by decide +kernel
theorem dX11_digestOf_48 : decode cX11_digestOf 48 = .ok (.lstore_n 2, 1) := by decide +kernel
theorem dX11_digestOf_49 : decode cX11_digestOf 49 = .ok (.iconst 0, 1) := by decide +kernel
theorem dX11_digestOf_50 : decode cX11_digestOf 50 = .ok (.istore 5, 2) := by decide +kernel
theorem dX11_digestOf_52 : decode cX11_digestOf 52 = .ok (.iload 5, 2) := by decide +kernel
theorem dX11_digestOf_54 : decode cX11_digestOf 54 = .ok (.aload 4, 2) := by decide +kernel
theorem dX11_digestOf_56 : decode cX11_digestOf 56 = .ok (.invokevirtual 119, 3) := by decide +kernel
theorem dX11_digestOf_59 : decode cX11_digestOf 59 = .ok (.if_icmp .ge 38, 3) := by decide +kernel
theorem dX11_digestOf_62 : decode cX11_digestOf 62 = .ok (.ldc2_w 295, 3) := by decide +kernel
theorem dX11_digestOf_65 : decode cX11_digestOf 65 = .ok (.lload_n 2, 1) := by decide +kernel
theorem dX11_digestOf_66 : decode cX11_digestOf 66 = .ok (.lmul, 1) := by decide +kernel
theorem dX11_digestOf_67 : decode cX11_digestOf 67 = .ok (.aload 4, 2) := by decide +kernel
theorem dX11_digestOf_69 : decode cX11_digestOf 69 = .ok (.iload 5, 2) := by decide +kernel
theorem dX11_digestOf_71 : decode cX11_digestOf 71 = .ok (.invokevirtual 369, 3) := by decide +kernel
theorem dX11_digestOf_74 : decode cX11_digestOf 74 = .ok (.i2l, 1) := by decide +kernel
theorem dX11_digestOf_75 : decode cX11_digestOf 75 = .ok (.ladd, 1) := by decide +kernel
theorem dX11_digestOf_76 : decode cX11_digestOf 76 = .ok (.lstore_n 2, 1) := by decide +kernel
theorem dX11_digestOf_77 : decode cX11_digestOf 77 = .ok (.ldc2_w 295, 3) := by decide +kernel
theorem dX11_digestOf_80 : decode cX11_digestOf 80 = .ok (.lload_n 2, 1) := by decide +kernel
theorem dX11_digestOf_81 : decode cX11_digestOf 81 = .ok (.lmul, 1) := by decide +kernel
theorem dX11_digestOf_82 : decode cX11_digestOf 82 = .ok (.aload 4, 2) := by decide +kernel
theorem dX11_digestOf_84 : decode cX11_digestOf 84 = .ok (.iload 5, 2) := by decide +kernel
theorem dX11_digestOf_86 : decode cX11_digestOf 86 = .ok (.invokevirtual 280, 3) := by decide +kernel
theorem dX11_digestOf_89 : decode cX11_digestOf 89 = .ok (.ladd, 1) := by decide +kernel
theorem dX11_digestOf_90 : decode cX11_digestOf 90 = .ok (.lstore_n 2, 1) := by decide +kernel
theorem dX11_digestOf_91 : decode cX11_digestOf 91 = .ok (.iinc 5 1, 3) := by decide +kernel
theorem dX11_digestOf_94 : decode cX11_digestOf 94 = .ok (.goto (-42), 3) := by decide +kernel
theorem dX11_digestOf_97 : decode cX11_digestOf 97 = .ok (.lload_n 2, 1) := by decide +kernel
theorem dX11_digestOf_98 : decode cX11_digestOf 98 = .ok (.lreturn, 1) := by decide +kernel
theorem dX11_digestOf_99 : decode cX11_digestOf 99 = .ok (.aload_n 0, 1) := by decide +kernel
theorem dX11_digestOf_100 : decode cX11_digestOf 100 = .ok (.getfield 59, 3) := by decide +kernel
theorem dX11_digestOf_103 : decode cX11_digestOf 103 = .ok (.iload_n 1, 1) := by decide +kernel
theorem dX11_digestOf_104 : decode cX11_digestOf 104 = .ok (.invokevirtual 112, 3) := by decide +kernel
theorem dX11_digestOf_107 : decode cX11_digestOf 107 = .ok (.iconst (-1), 1) := by decide +kernel
theorem dX11_digestOf_108 : decode cX11_digestOf 108 = .ok (.if_icmp .ne 11, 3) := by decide +kernel
theorem dX11_digestOf_111 : decode cX11_digestOf 111 = .ok (.ldc2_w 295, 3) := by decide +kernel
theorem dX11_digestOf_114 : decode cX11_digestOf 114 = .ok (.lload_n 2, 1) := by decide +kernel
theorem dX11_digestOf_115 : decode cX11_digestOf 115 = .ok (.lmul, 1) := by decide +kernel
theorem dX11_digestOf_116 : decode cX11_digestOf 116 = .ok (.lconst 1, 1) := by decide +kernel
theorem dX11_digestOf_117 : decode cX11_digestOf 117 = .ok (.ladd, 1) := by decide +kernel
theorem dX11_digestOf_118 : decode cX11_digestOf 118 = .ok (.lreturn, 1) := by decide +kernel
theorem dX11_digestOf_119 : decode cX11_digestOf 119 = .ok (.ldc2_w 295, 3) := by decide +kernel
theorem dX11_digestOf_122 : decode cX11_digestOf 122 = .ok (.lload_n 2, 1) := by decide +kernel
theorem dX11_digestOf_123 : decode cX11_digestOf 123 = .ok (.lmul, 1) := by decide +kernel
theorem dX11_digestOf_124 : decode cX11_digestOf 124 = .ok (.ldc2_w 414, 3) := by decide +kernel
theorem dX11_digestOf_127 : decode cX11_digestOf 127 = .ok (.ladd, 1) := by decide +kernel
theorem dX11_digestOf_128 : decode cX11_digestOf 128 = .ok (.lstore_n 2, 1) := by decide +kernel
theorem dX11_digestOf_129 : decode cX11_digestOf 129 = .ok (.ldc2_w 295, 3) := by decide +kernel
theorem dX11_digestOf_132 : decode cX11_digestOf 132 = .ok (.lload_n 2, 1) := by decide +kernel
theorem dX11_digestOf_133 : decode cX11_digestOf 133 = .ok (.lmul, 1) := by decide +kernel
theorem dX11_digestOf_134 : decode cX11_digestOf 134 = .ok (.aload_n 0, 1) := by decide +kernel
theorem dX11_digestOf_135 : decode cX11_digestOf 135 = .ok (.getfield 59, 3) := by decide +kernel
theorem dX11_digestOf_138 : decode cX11_digestOf 138 = .ok (.iload_n 1, 1) := by decide +kernel
theorem dX11_digestOf_139 : decode cX11_digestOf 139 = .ok (.invokevirtual 416, 3) := by decide +kernel
theorem dX11_digestOf_142 : decode cX11_digestOf 142 = .ok (.i2l, 1) := by decide +kernel
theorem dX11_digestOf_143 : decode cX11_digestOf 143 = .ok (.ladd, 1) := by decide +kernel
theorem dX11_digestOf_144 : decode cX11_digestOf 144 = .ok (.lreturn, 1) := by decide +kernel
theorem dX12_within_0 : decode cX12_within 0 = .ok (.lload_n 0, 1) := by decide +kernel
theorem dX12_within_1 : decode cX12_within 1 = .ok (.lload_n 2, 1) := by decide +kernel
theorem dX12_within_2 : decode cX12_within 2 = .ok (.lcmp, 1) := by decide +kernel
theorem dX12_within_3 : decode cX12_within 3 = .ok (.ifCond .lt 14, 3) := by decide +kernel
theorem dX12_within_6 : decode cX12_within 6 = .ok (.lload_n 0, 1) := by decide +kernel
theorem dX12_within_7 : decode cX12_within 7 = .ok (.lload 4, 2) := by decide +kernel
theorem dX12_within_9 : decode cX12_within 9 = .ok (.lcmp, 1) := by decide +kernel
theorem dX12_within_10 : decode cX12_within 10 = .ok (.ifCond .gt 7, 3) := by decide +kernel
theorem dX12_within_13 : decode cX12_within 13 = .ok (.iconst 1, 1) := by decide +kernel
theorem dX12_within_14 : decode cX12_within 14 = .ok (.goto 4, 3) := by decide +kernel
theorem dX12_within_17 : decode cX12_within 17 = .ok (.iconst 0, 1) := by decide +kernel
theorem dX12_within_18 : decode cX12_within 18 = .ok (.ireturn, 1) := by decide +kernel
theorem dX12_is_0 : decode cX12_is 0 = .ok (.aload_n 0, 1) := by decide +kernel
theorem dX12_is_1 : decode cX12_is 1 = .ok (.iload_n 1, 1) := by decide +kernel
theorem dX12_is_2 : decode cX12_is 2 = .ok (.putfield 3, 3) := by decide +kernel
theorem dX12_is_5 : decode cX12_is 5 = .ok (.aload_n 0, 1) := by decide +kernel
theorem dX12_is_6 : decode cX12_is 6 = .ok (.lload_n 2, 1) := by decide +kernel
theorem dX12_is_7 : decode cX12_is 7 = .ok (.putfield 9, 3) := by decide +kernel
theorem dX12_is_10 : decode cX12_is 10 = .ok (.return_, 1) := by decide +kernel
theorem dX12_isNone_0 : decode cX12_isNone 0 = .ok (.iload_n 0, 1) := by decide +kernel
theorem dX12_isNone_1 : decode cX12_isNone 1 = .ok (.bipush 10, 2) := by decide +kernel
theorem dX12_isNone_3 : decode cX12_isNone 3 = .ok (.if_icmp .ne 18, 3) := by decide +kernel
theorem dX12_isNone_6 : decode cX12_isNone 6 = .ok (.lload_n 1, 1) := by decide +kernel
theorem dX12_isNone_7 : decode cX12_isNone 7 = .ok (.lconst 0, 1) := by decide +kernel
theorem dX12_isNone_8 : decode cX12_isNone 8 = .ok (.ldc2_w 13, 3) := by decide +kernel
theorem dX12_isNone_11 : decode cX12_isNone 11 = .ok (.invokestatic 15, 3) := by decide +kernel
theorem dX12_isNone_14 : decode cX12_isNone 14 = .ok (.ifCond .ne 7, 3) := by decide +kernel
theorem dX12_isNone_17 : decode cX12_isNone 17 = .ok (.iconst 1, 1) := by decide +kernel
theorem dX12_isNone_18 : decode cX12_isNone 18 = .ok (.goto 4, 3) := by decide +kernel
theorem dX12_isNone_21 : decode cX12_isNone 21 = .ok (.iconst 0, 1) := by decide +kernel
theorem dX12_isNone_22 : decode cX12_isNone 22 = .ok (.ireturn, 1) := by decide +kernel
theorem dX12_by_0 : decode cX12_by 0 = .ok (.iload_n 1, 1) := by decide +kernel
theorem dX12_by_1 : decode cX12_by 1 = .ok (.tableswitch 157 0 9 #[55, 74, 86, 98, 110, 157, 121, 135, 148, 110], 55) := by decide +kernel
theorem dX12_by_56 : decode cX12_by 56 = .ok (.aload_n 0, 1) := by decide +kernel
theorem dX12_by_57 : decode cX12_by 57 = .ok (.iload_n 1, 1) := by decide +kernel
theorem dX12_by_58 : decode cX12_by 58 = .ok (.lload_n 2, 1) := by decide +kernel
theorem dX12_by_59 : decode cX12_by 59 = .ok (.lconst 0, 1) := by decide +kernel
theorem dX12_by_60 : decode cX12_by 60 = .ok (.lcmp, 1) := by decide +kernel
theorem dX12_by_61 : decode cX12_by 61 = .ok (.ifCond .ne 7, 3) := by decide +kernel
theorem dX12_by_64 : decode cX12_by 64 = .ok (.lconst 0, 1) := by decide +kernel
theorem dX12_by_65 : decode cX12_by 65 = .ok (.goto 4, 3) := by decide +kernel
theorem dX12_by_68 : decode cX12_by 68 = .ok (.lconst 1, 1) := by decide +kernel
theorem dX12_by_69 : decode cX12_by 69 = .ok (.invokevirtual 19, 3) := by decide +kernel
theorem dX12_by_72 : decode cX12_by 72 = .ok (.goto 92, 3) := by decide +kernel
theorem dX12_by_75 : decode cX12_by 75 = .ok (.aload_n 0, 1) := by decide +kernel
theorem dX12_by_76 : decode cX12_by 76 = .ok (.iload_n 1, 1) := by decide +kernel
theorem dX12_by_77 : decode cX12_by 77 = .ok (.lload_n 2, 1) := by decide +kernel
theorem dX12_by_78 : decode cX12_by 78 = .ok (.l2i, 1) := by decide +kernel
theorem dX12_by_79 : decode cX12_by 79 = .ok (.i2b, 1) := by decide +kernel
theorem dX12_by_80 : decode cX12_by 80 = .ok (.i2l, 1) := by decide +kernel
theorem dX12_by_81 : decode cX12_by 81 = .ok (.invokevirtual 19, 3) := by decide +kernel
theorem dX12_by_84 : decode cX12_by 84 = .ok (.goto 80, 3) := by decide +kernel
theorem dX12_by_87 : decode cX12_by 87 = .ok (.aload_n 0, 1) := by decide +kernel
theorem dX12_by_88 : decode cX12_by 88 = .ok (.iload_n 1, 1) := by decide +kernel
theorem dX12_by_89 : decode cX12_by 89 = .ok (.lload_n 2, 1) := by decide +kernel
theorem dX12_by_90 : decode cX12_by 90 = .ok (.l2i, 1) := by decide +kernel
theorem dX12_by_91 : decode cX12_by 91 = .ok (.i2c, 1) := by decide +kernel
theorem dX12_by_92 : decode cX12_by 92 = .ok (.i2l, 1) := by decide +kernel
theorem dX12_by_93 : decode cX12_by 93 = .ok (.invokevirtual 19, 3) := by decide +kernel
theorem dX12_by_96 : decode cX12_by 96 = .ok (.goto 68, 3) := by decide +kernel
theorem dX12_by_99 : decode cX12_by 99 = .ok (.aload_n 0, 1) := by decide +kernel
theorem dX12_by_100 : decode cX12_by 100 = .ok (.iload_n 1, 1) := by decide +kernel
theorem dX12_by_101 : decode cX12_by 101 = .ok (.lload_n 2, 1) := by decide +kernel
theorem dX12_by_102 : decode cX12_by 102 = .ok (.l2i, 1) := by decide +kernel
theorem dX12_by_103 : decode cX12_by 103 = .ok (.i2s, 1) := by decide +kernel
theorem dX12_by_104 : decode cX12_by 104 = .ok (.i2l, 1) := by decide +kernel
theorem dX12_by_105 : decode cX12_by 105 = .ok (.invokevirtual 19, 3) := by decide +kernel
theorem dX12_by_108 : decode cX12_by 108 = .ok (.goto 56, 3) := by decide +kernel
theorem dX12_by_111 : decode cX12_by 111 = .ok (.aload_n 0, 1) := by decide +kernel
theorem dX12_by_112 : decode cX12_by 112 = .ok (.iload_n 1, 1) := by decide +kernel
theorem dX12_by_113 : decode cX12_by 113 = .ok (.lload_n 2, 1) := by decide +kernel
theorem dX12_by_114 : decode cX12_by 114 = .ok (.l2i, 1) := by decide +kernel
theorem dX12_by_115 : decode cX12_by 115 = .ok (.i2l, 1) := by decide +kernel
theorem dX12_by_116 : decode cX12_by 116 = .ok (.invokevirtual 19, 3) := by decide +kernel
theorem dX12_by_119 : decode cX12_by 119 = .ok (.goto 45, 3) := by decide +kernel
theorem dX12_by_122 : decode cX12_by 122 = .ok (.aload_n 0, 1) := by decide +kernel
theorem dX12_by_123 : decode cX12_by 123 = .ok (.iload_n 1, 1) := by decide +kernel
theorem dX12_by_124 : decode cX12_by 124 = .ok (.lload_n 2, 1) := by decide +kernel
theorem dX12_by_125 : decode cX12_by 125 = .ok (.l2f, 1) := by decide +kernel
theorem dX12_by_126 : decode cX12_by 126 = .ok (.invokestatic 23, 3) := by decide +kernel
theorem dX12_by_129 : decode cX12_by 129 = .ok (.i2l, 1) := by decide +kernel
theorem dX12_by_130 : decode cX12_by 130 = .ok (.invokevirtual 19, 3) := by decide +kernel
theorem dX12_by_133 : decode cX12_by 133 = .ok (.goto 31, 3) := by decide +kernel
theorem dX12_by_136 : decode cX12_by 136 = .ok (.aload_n 0, 1) := by decide +kernel
theorem dX12_by_137 : decode cX12_by 137 = .ok (.iload_n 1, 1) := by decide +kernel
theorem dX12_by_138 : decode cX12_by 138 = .ok (.lload_n 2, 1) := by decide +kernel
theorem dX12_by_139 : decode cX12_by 139 = .ok (.l2d, 1) := by decide +kernel
theorem dX12_by_140 : decode cX12_by 140 = .ok (.invokestatic 29, 3) := by decide +kernel
theorem dX12_by_143 : decode cX12_by 143 = .ok (.invokevirtual 19, 3) := by decide +kernel
theorem dX12_by_146 : decode cX12_by 146 = .ok (.goto 18, 3) := by decide +kernel
theorem dX12_by_149 : decode cX12_by 149 = .ok (.aload_n 0, 1) := by decide +kernel
theorem dX12_by_150 : decode cX12_by 150 = .ok (.iload_n 1, 1) := by decide +kernel
theorem dX12_by_151 : decode cX12_by 151 = .ok (.lconst 0, 1) := by decide +kernel
theorem dX12_by_152 : decode cX12_by 152 = .ok (.invokevirtual 19, 3) := by decide +kernel
theorem dX12_by_155 : decode cX12_by 155 = .ok (.goto 9, 3) := by decide +kernel
theorem dX12_by_158 : decode cX12_by 158 = .ok (.aload_n 0, 1) := by decide +kernel
theorem dX12_by_159 : decode cX12_by 159 = .ok (.iload_n 1, 1) := by decide +kernel
theorem dX12_by_160 : decode cX12_by 160 = .ok (.lload_n 2, 1) := by decide +kernel
theorem dX12_by_161 : decode cX12_by 161 = .ok (.invokevirtual 19, 3) := by decide +kernel
theorem dX12_by_164 : decode cX12_by 164 = .ok (.return_, 1) := by decide +kernel
theorem dX12_mayView_0 : decode cX12_mayView 0 = .ok (.iload_n 0, 1) := by decide +kernel
theorem dX12_mayView_1 : decode cX12_mayView 1 = .ok (.iload_n 1, 1) := by decide +kernel
theorem dX12_mayView_2 : decode cX12_mayView 2 = .ok (.if_icmp .ne 13, 3) := by decide +kernel
theorem dX12_mayView_5 : decode cX12_mayView 5 = .ok (.iload_n 0, 1) := by decide +kernel
theorem dX12_mayView_6 : decode cX12_mayView 6 = .ok (.i2l, 1) := by decide +kernel
theorem dX12_mayView_7 : decode cX12_mayView 7 = .ok (.lconst 0, 1) := by decide +kernel
theorem dX12_mayView_8 : decode cX12_mayView 8 = .ok (.ldc2_w 35, 3) := by decide +kernel
theorem dX12_mayView_11 : decode cX12_mayView 11 = .ok (.invokestatic 15, 3) := by decide +kernel
theorem dX12_mayView_14 : decode cX12_mayView 14 = .ok (.ireturn, 1) := by decide +kernel
theorem dX12_mayView_15 : decode cX12_mayView 15 = .ok (.iload_n 0, 1) := by decide +kernel
theorem dX12_mayView_16 : decode cX12_mayView 16 = .ok (.tableswitch 100 1 6 #[40, 52, 52, 64, 76, 88], 40) := by decide +kernel
theorem dX12_mayView_56 : decode cX12_mayView 56 = .ok (.iload_n 1, 1) := by decide +kernel
theorem dX12_mayView_57 : decode cX12_mayView 57 = .ok (.i2l, 1) := by decide +kernel
theorem dX12_mayView_58 : decode cX12_mayView 58 = .ok (.ldc2_w 37, 3) := by decide +kernel
theorem dX12_mayView_61 : decode cX12_mayView 61 = .ok (.ldc2_w 35, 3) := by decide +kernel
theorem dX12_mayView_64 : decode cX12_mayView 64 = .ok (.invokestatic 15, 3) := by decide +kernel
theorem dX12_mayView_67 : decode cX12_mayView 67 = .ok (.ireturn, 1) := by decide +kernel
theorem dX12_mayView_68 : decode cX12_mayView 68 = .ok (.iload_n 1, 1) := by decide +kernel
theorem dX12_mayView_69 : decode cX12_mayView 69 = .ok (.i2l, 1) := by decide +kernel
theorem dX12_mayView_70 : decode cX12_mayView 70 = .ok (.ldc2_w 39, 3) := by decide +kernel
theorem dX12_mayView_73 : decode cX12_mayView 73 = .ok (.ldc2_w 35, 3) := by decide +kernel
theorem dX12_mayView_76 : decode cX12_mayView 76 = .ok (.invokestatic 15, 3) := by decide +kernel
theorem dX12_mayView_79 : decode cX12_mayView 79 = .ok (.ireturn, 1) := by decide +kernel

theorem dX4_areAlike_41 : decode cX4_areAlike 41 = .ok (.aload_n 0, 1) := by decide +kernel
theorem dX4_areAlike_42 : decode cX4_areAlike 42 = .ok (.getfield 55, 3) := by decide +kernel
theorem dX4_areAlike_45 : decode cX4_areAlike 45 = .ok (.aload_n 1, 1) := by decide +kernel
theorem dX4_areAlike_46 : decode cX4_areAlike 46 = .ok (.getfield 55, 3) := by decide +kernel
theorem dX4_areAlike_49 : decode cX4_areAlike 49 = .ok (.lcmp, 1) := by decide +kernel
theorem dX4_areAlike_50 : decode cX4_areAlike 50 = .ok (.ifCond .ne 7, 3) := by decide +kernel
theorem dX4_areAlike_53 : decode cX4_areAlike 53 = .ok (.iconst 1, 1) := by decide +kernel
theorem dX4_areAlike_54 : decode cX4_areAlike 54 = .ok (.goto 4, 3) := by decide +kernel
theorem dX4_areAlike_57 : decode cX4_areAlike 57 = .ok (.iconst 0, 1) := by decide +kernel
theorem dX4_areAlike_58 : decode cX4_areAlike 58 = .ok (.ireturn, 1) := by decide +kernel
theorem dX4_areAlike_59 : decode cX4_areAlike 59 = .ok (.aload_n 0, 1) := by decide +kernel
theorem dX4_areAlike_60 : decode cX4_areAlike 60 = .ok (.getfield 45, 3) := by decide +kernel
theorem dX4_areAlike_63 : decode cX4_areAlike 63 = .ok (.iconst 5, 1) := by decide +kernel
theorem dX4_areAlike_64 : decode cX4_areAlike 64 = .ok (.if_icmp .gt 29, 3) := by decide +kernel
theorem dX4_areAlike_67 : decode cX4_areAlike 67 = .ok (.aload_n 1, 1) := by decide +kernel
theorem dX4_areAlike_68 : decode cX4_areAlike 68 = .ok (.getfield 45, 3) := by decide +kernel
theorem dX4_areAlike_71 : decode cX4_areAlike 71 = .ok (.iconst 5, 1) := by decide +kernel
theorem dX4_areAlike_72 : decode cX4_areAlike 72 = .ok (.if_icmp .gt 21, 3) := by decide +kernel
theorem dX4_areAlike_75 : decode cX4_areAlike 75 = .ok (.aload_n 0, 1) := by decide +kernel
theorem dX4_areAlike_76 : decode cX4_areAlike 76 = .ok (.getfield 55, 3) := by decide +kernel
theorem dX4_areAlike_79 : decode cX4_areAlike 79 = .ok (.aload_n 1, 1) := by decide +kernel
theorem dX4_areAlike_80 : decode cX4_areAlike 80 = .ok (.getfield 55, 3) := by decide +kernel
theorem dX4_areAlike_83 : decode cX4_areAlike 83 = .ok (.lcmp, 1) := by decide +kernel
theorem dX4_areAlike_84 : decode cX4_areAlike 84 = .ok (.ifCond .ne 7, 3) := by decide +kernel
theorem dX4_areAlike_87 : decode cX4_areAlike 87 = .ok (.iconst 1, 1) := by decide +kernel
theorem dX4_areAlike_88 : decode cX4_areAlike 88 = .ok (.goto 4, 3) := by decide +kernel
theorem dX4_areAlike_91 : decode cX4_areAlike 91 = .ok (.iconst 0, 1) := by decide +kernel
theorem dX4_areAlike_92 : decode cX4_areAlike 92 = .ok (.ireturn, 1) := by decide +kernel
theorem dX4_areAlike_93 : decode cX4_areAlike 93 = .ok (.bipush 7, 2) := by decide +kernel
theorem dX4_areAlike_95 : decode cX4_areAlike 95 = .ok (.aload_n 0, 1) := by decide +kernel
theorem dX4_areAlike_96 : decode cX4_areAlike 96 = .ok (.getfield 45, 3) := by decide +kernel
theorem dX4_areAlike_99 : decode cX4_areAlike 99 = .ok (.aload_n 0, 1) := by decide +kernel
theorem dX4_areAlike_100 : decode cX4_areAlike 100 = .ok (.getfield 55, 3) := by decide +kernel
theorem dX4_areAlike_103 : decode cX4_areAlike 103 = .ok (.invokestatic 30, 3) := by decide +kernel
theorem dX4_areAlike_106 : decode cX4_areAlike 106 = .ok (.invokestatic 59, 3) := by decide +kernel
theorem dX4_areAlike_109 : decode cX4_areAlike 109 = .ok (.lstore_n 3, 1) := by decide +kernel
theorem dX4_areAlike_110 : decode cX4_areAlike 110 = .ok (.bipush 7, 2) := by decide +kernel
theorem dX4_areAlike_112 : decode cX4_areAlike 112 = .ok (.aload_n 1, 1) := by decide +kernel
theorem dX4_areAlike_113 : decode cX4_areAlike 113 = .ok (.getfield 45, 3) := by decide +kernel
theorem dX4_areAlike_116 : decode cX4_areAlike 116 = .ok (.aload_n 1, 1) := by decide +kernel
theorem dX4_areAlike_117 : decode cX4_areAlike 117 = .ok (.getfield 55, 3) := by decide +kernel
theorem dX4_areAlike_120 : decode cX4_areAlike 120 = .ok (.invokestatic 30, 3) := by decide +kernel
theorem dX4_areAlike_123 : decode cX4_areAlike 123 = .ok (.invokestatic 59, 3) := by decide +kernel
theorem dX4_areAlike_126 : decode cX4_areAlike 126 = .ok (.lstore 5, 2) := by decide +kernel
theorem dX4_areAlike_128 : decode cX4_areAlike 128 = .ok (.lload_n 3, 1) := by decide +kernel
theorem dX4_areAlike_129 : decode cX4_areAlike 129 = .ok (.lload 5, 2) := by decide +kernel
theorem dX4_areAlike_131 : decode cX4_areAlike 131 = .ok (.lcmp, 1) := by decide +kernel
theorem dX4_areAlike_132 : decode cX4_areAlike 132 = .ok (.ifCond .ne 7, 3) := by decide +kernel
theorem dX4_areAlike_135 : decode cX4_areAlike 135 = .ok (.iconst 1, 1) := by decide +kernel
theorem dX4_areAlike_136 : decode cX4_areAlike 136 = .ok (.goto 4, 3) := by decide +kernel
theorem dX4_areAlike_139 : decode cX4_areAlike 139 = .ok (.iconst 0, 1) := by decide +kernel
theorem dX4_areAlike_140 : decode cX4_areAlike 140 = .ok (.ireturn, 1) := by decide +kernel
theorem dX4_isNumberNoBits_0 : decode cX4_isNumberNoBits 0 = .ok (.iload_n 0, 1) := by decide +kernel
theorem dX4_isNumberNoBits_1 : decode cX4_isNumberNoBits 1 = .ok (.ifCond .le 13, 3) := by decide +kernel
theorem dX4_isNumberNoBits_4 : decode cX4_isNumberNoBits 4 = .ok (.iload_n 0, 1) := by decide +kernel
theorem dX4_isNumberNoBits_5 : decode cX4_isNumberNoBits 5 = .ok (.bipush 7, 2) := by decide +kernel
theorem dX4_isNumberNoBits_7 : decode cX4_isNumberNoBits 7 = .ok (.if_icmp .gt 7, 3) := by decide +kernel
theorem dX4_isNumberNoBits_10 : decode cX4_isNumberNoBits 10 = .ok (.iconst 1, 1) := by decide +kernel
theorem dX4_isNumberNoBits_11 : decode cX4_isNumberNoBits 11 = .ok (.goto 4, 3) := by decide +kernel
theorem dX4_isNumberNoBits_14 : decode cX4_isNumberNoBits 14 = .ok (.iconst 0, 1) := by decide +kernel
theorem dX4_isNumberNoBits_15 : decode cX4_isNumberNoBits 15 = .ok (.ireturn, 1) := by decide +kernel
theorem dX4_zero_0 : decode cX4_zero 0 = .ok (.iload_n 1, 1) := by decide +kernel
theorem dX4_zero_1 : decode cX4_zero 1 = .ok (.ifCond .ne 5, 3) := by decide +kernel
theorem dX4_zero_4 : decode cX4_zero 4 = .ok (.lconst 0, 1) := by decide +kernel
theorem dX4_zero_5 : decode cX4_zero 5 = .ok (.lreturn, 1) := by decide +kernel
theorem dX4_zero_6 : decode cX4_zero 6 = .ok (.iload_n 0, 1) := by decide +kernel
theorem dX4_zero_7 : decode cX4_zero 7 = .ok (.bipush 6, 2) := by decide +kernel
theorem dX4_zero_9 : decode cX4_zero 9 = .ok (.if_icmp .ne 9, 3) := by decide +kernel
theorem dX4_zero_12 : decode cX4_zero 12 = .ok (.ldc2_w 62, 3) := by decide +kernel
theorem dX4_zero_15 : decode cX4_zero 15 = .ok (.goto 6, 3) := by decide +kernel
theorem dX4_zero_18 : decode cX4_zero 18 = .ok (.ldc2_w 64, 3) := by decide +kernel
theorem dX4_zero_21 : decode cX4_zero 21 = .ok (.lreturn, 1) := by decide +kernel
theorem dX4_doubleBitsOf_0 : decode cX4_doubleBitsOf 0 = .ok (.iload_n 0, 1) := by decide +kernel
theorem dX4_doubleBitsOf_1 : decode cX4_doubleBitsOf 1 = .ok (.lload_n 1, 1) := by decide +kernel
theorem dX4_doubleBitsOf_2 : decode cX4_doubleBitsOf 2 = .ok (.bipush 7, 2) := by decide +kernel
theorem dX4_doubleBitsOf_4 : decode cX4_doubleBitsOf 4 = .ok (.invokestatic 66, 3) := by decide +kernel
theorem dX4_doubleBitsOf_7 : decode cX4_doubleBitsOf 7 = .ok (.lreturn, 1) := by decide +kernel
theorem dX4_doubleBits_0 : decode cX4_doubleBits 0 = .ok (.dload_n 0, 1) := by decide +kernel
theorem dX4_doubleBits_1 : decode cX4_doubleBits 1 = .ok (.dconst 0, 1) := by decide +kernel
theorem dX4_doubleBits_2 : decode cX4_doubleBits 2 = .ok (.dcmp .l, 1) := by decide +kernel
theorem dX4_doubleBits_3 : decode cX4_doubleBits 3 = .ok (.ifCond .ne 5, 3) := by decide +kernel
theorem dX4_doubleBits_6 : decode cX4_doubleBits 6 = .ok (.lconst 0, 1) := by decide +kernel
theorem dX4_doubleBits_7 : decode cX4_doubleBits 7 = .ok (.lreturn, 1) := by decide +kernel
theorem dX4_doubleBits_8 : decode cX4_doubleBits 8 = .ok (.dload_n 0, 1) := by decide +kernel
theorem dX4_doubleBits_9 : decode cX4_doubleBits 9 = .ok (.dconst 0, 1) := by decide +kernel
theorem dX4_doubleBits_10 : decode cX4_doubleBits 10 = .ok (.dcmp .g, 1) := by decide +kernel
theorem dX4_doubleBits_11 : decode cX4_doubleBits 11 = .ok (.ifCond .ge 8, 3) := by decide +kernel
theorem dX4_doubleBits_14 : decode cX4_doubleBits 14 = .ok (.dload_n 0, 1) := by decide +kernel
theorem dX4_doubleBits_15 : decode cX4_doubleBits 15 = .ok (.dneg, 1) := by decide +kernel
theorem dX4_doubleBits_16 : decode cX4_doubleBits 16 = .ok (.goto 4, 3) := by decide +kernel
theorem dX4_doubleBits_19 : decode cX4_doubleBits 19 = .ok (.dload_n 0, 1) := by decide +kernel
theorem dX4_doubleBits_20 : decode cX4_doubleBits 20 = .ok (.dstore_n 2, 1) := by decide +kernel
theorem dX4_doubleBits_21 : decode cX4_doubleBits 21 = .ok (.iconst 0, 1) := by decide +kernel
theorem dX4_doubleBits_22 : decode cX4_doubleBits 22 = .ok (.istore 4, 2) := by decide +kernel
theorem dX4_doubleBits_24 : decode cX4_doubleBits 24 = .ok (.dload_n 2, 1) := by decide +kernel
theorem dX4_doubleBits_25 : decode cX4_doubleBits 25 = .ok (.dconst 1, 1) := by decide +kernel
theorem dX4_doubleBits_26 : decode cX4_doubleBits 26 = .ok (.dcmp .g, 1) := by decide +kernel
theorem dX4_doubleBits_27 : decode cX4_doubleBits 27 = .ok (.ifCond .ge 13, 3) := by decide +kernel
theorem dX4_doubleBits_30 : decode cX4_doubleBits 30 = .ok (.dload_n 2, 1) := by decide +kernel
theorem dX4_doubleBits_31 : decode cX4_doubleBits 31 = .ok (.ldc2_w 70, 3) := by decide +kernel
theorem dX4_doubleBits_34 : decode cX4_doubleBits 34 = .ok (.dmul, 1) := by decide +kernel
theorem dX4_doubleBits_35 : decode cX4_doubleBits 35 = .ok (.dstore_n 2, 1) := by decide +kernel
theorem dX4_doubleBits_36 : decode cX4_doubleBits 36 = .ok (.bipush (-32), 2) := by decide +kernel
theorem dX4_doubleBits_38 : decode cX4_doubleBits 38 = .ok (.istore 4, 2) := by decide +kernel
theorem dX4_doubleBits_40 : decode cX4_doubleBits 40 = .ok (.bipush 32, 2) := by decide +kernel
theorem dX4_doubleBits_42 : decode cX4_doubleBits 42 = .ok (.istore 5, 2) := by decide +kernel
theorem dX4_doubleBits_44 : decode cX4_doubleBits 44 = .ok (.iload 5, 2) := by decide +kernel
theorem dX4_doubleBits_46 : decode cX4_doubleBits 46 = .ok (.ifCond .le 38, 3) := by decide +kernel
theorem dX4_doubleBits_49 : decode cX4_doubleBits 49 = .ok (.lconst 1, 1) := by decide +kernel
theorem dX4_doubleBits_50 : decode cX4_doubleBits 50 = .ok (.iload 5, 2) := by decide +kernel
theorem dX4_doubleBits_52 : decode cX4_doubleBits 52 = .ok (.lshl, 1) := by decide +kernel
theorem dX4_doubleBits_53 : decode cX4_doubleBits 53 = .ok (.l2d, 1) := by decide +kernel
theorem dX4_doubleBits_54 : decode cX4_doubleBits 54 = .ok (.dstore 6, 2) := by decide +kernel
theorem dX4_doubleBits_56 : decode cX4_doubleBits 56 = .ok (.dload_n 2, 1) := by decide +kernel
theorem dX4_doubleBits_57 : decode cX4_doubleBits 57 = .ok (.dload 6, 2) := by decide +kernel
theorem dX4_doubleBits_59 : decode cX4_doubleBits 59 = .ok (.dcmp .l, 1) := by decide +kernel
theorem dX4_doubleBits_60 : decode cX4_doubleBits 60 = .ok (.ifCond .lt 15, 3) := by decide +kernel
theorem dX4_doubleBits_63 : decode cX4_doubleBits 63 = .ok (.dload_n 2, 1) := by decide +kernel
theorem dX4_doubleBits_64 : decode cX4_doubleBits 64 = .ok (.dload 6, 2) := by decide +kernel
theorem dX4_doubleBits_66 : decode cX4_doubleBits 66 = .ok (.ddiv, 1) := by decide +kernel
theorem dX4_doubleBits_67 : decode cX4_doubleBits 67 = .ok (.dstore_n 2, 1) := by decide +kernel
theorem dX4_doubleBits_68 : decode cX4_doubleBits 68 = .ok (.iload 4, 2) := by decide +kernel
theorem dX4_doubleBits_70 : decode cX4_doubleBits 70 = .ok (.iload 5, 2) := by decide +kernel
theorem dX4_doubleBits_72 : decode cX4_doubleBits 72 = .ok (.iadd, 1) := by decide +kernel
theorem dX4_doubleBits_73 : decode cX4_doubleBits 73 = .ok (.istore 4, 2) := by decide +kernel
theorem dX4_doubleBits_75 : decode cX4_doubleBits 75 = .ok (.iload 5, 2) := by decide +kernel
theorem dX4_doubleBits_77 : decode cX4_doubleBits 77 = .ok (.iconst 2, 1) := by decide +kernel
theorem dX4_doubleBits_78 : decode cX4_doubleBits 78 = .ok (.idiv, 1) := by decide +kernel
theorem dX4_doubleBits_79 : decode cX4_doubleBits 79 = .ok (.istore 5, 2) := by decide +kernel
theorem dX4_doubleBits_81 : decode cX4_doubleBits 81 = .ok (.goto (-37), 3) := by decide +kernel
theorem dX4_doubleBits_84 : decode cX4_doubleBits 84 = .ok (.dload_n 2, 1) := by decide +kernel
theorem dX4_doubleBits_85 : decode cX4_doubleBits 85 = .ok (.dconst 1, 1) := by decide +kernel
theorem dX4_doubleBits_86 : decode cX4_doubleBits 86 = .ok (.dsub, 1) := by decide +kernel
theorem dX4_doubleBits_87 : decode cX4_doubleBits 87 = .ok (.ldc2_w 72, 3) := by decide +kernel
theorem dX4_doubleBits_90 : decode cX4_doubleBits 90 = .ok (.dmul, 1) := by decide +kernel
theorem dX4_doubleBits_91 : decode cX4_doubleBits 91 = .ok (.d2l, 1) := by decide +kernel
theorem dX4_doubleBits_92 : decode cX4_doubleBits 92 = .ok (.lstore 5, 2) := by decide +kernel
theorem dX4_doubleBits_94 : decode cX4_doubleBits 94 = .ok (.iload 4, 2) := by decide +kernel
theorem dX4_doubleBits_96 : decode cX4_doubleBits 96 = .ok (.sipush 1023, 3) := by decide +kernel
theorem dX4_doubleBits_99 : decode cX4_doubleBits 99 = .ok (.iadd, 1) := by decide +kernel
theorem dX4_doubleBits_100 : decode cX4_doubleBits 100 = .ok (.i2l, 1) := by decide +kernel
theorem dX4_doubleBits_101 : decode cX4_doubleBits 101 = .ok (.bipush 52, 2) := by decide +kernel
theorem dX4_doubleBits_103 : decode cX4_doubleBits 103 = .ok (.lshl, 1) := by decide +kernel
theorem dX4_doubleBits_104 : decode cX4_doubleBits 104 = .ok (.lload 5, 2) := by decide +kernel
theorem dX4_doubleBits_106 : decode cX4_doubleBits 106 = .ok (.lor, 1) := by decide +kernel
theorem dX4_doubleBits_107 : decode cX4_doubleBits 107 = .ok (.lstore 7, 2) := by decide +kernel
theorem dX4_doubleBits_109 : decode cX4_doubleBits 109 = .ok (.dload_n 0, 1) := by decide +kernel
theorem dX4_doubleBits_110 : decode cX4_doubleBits 110 = .ok (.dconst 0, 1) := by decide +kernel
theorem dX4_doubleBits_111 : decode cX4_doubleBits 111 = .ok (.dcmp .g, 1) := by decide +kernel
theorem dX4_doubleBits_112 : decode cX4_doubleBits 112 = .ok (.ifCond .ge 12, 3) := by decide +kernel
theorem dX4_doubleBits_115 : decode cX4_doubleBits 115 = .ok (.lload 7, 2) := by decide +kernel
theorem dX4_doubleBits_117 : decode cX4_doubleBits 117 = .ok (.ldc2_w 64, 3) := by decide +kernel
theorem dX4_doubleBits_120 : decode cX4_doubleBits 120 = .ok (.lor, 1) := by decide +kernel
theorem dX4_doubleBits_121 : decode cX4_doubleBits 121 = .ok (.goto 5, 3) := by decide +kernel
theorem dX4_doubleBits_124 : decode cX4_doubleBits 124 = .ok (.lload 7, 2) := by decide +kernel
theorem dX4_doubleBits_126 : decode cX4_doubleBits 126 = .ok (.lreturn, 1) := by decide +kernel
theorem dX4_narrowed_0 : decode cX4_narrowed 0 = .ok (.lload_n 0, 1) := by decide +kernel
theorem dX4_narrowed_1 : decode cX4_narrowed 1 = .ok (.lconst 0, 1) := by decide +kernel
theorem dX4_narrowed_2 : decode cX4_narrowed 2 = .ok (.lcmp, 1) := by decide +kernel
theorem dX4_narrowed_3 : decode cX4_narrowed 3 = .ok (.ifCond .ne 5, 3) := by decide +kernel
theorem dX4_narrowed_6 : decode cX4_narrowed 6 = .ok (.lconst 0, 1) := by decide +kernel
theorem dX4_narrowed_7 : decode cX4_narrowed 7 = .ok (.lreturn, 1) := by decide +kernel
theorem dX4_narrowed_8 : decode cX4_narrowed 8 = .ok (.lload_n 0, 1) := by decide +kernel
theorem dX4_narrowed_9 : decode cX4_narrowed 9 = .ok (.bipush 52, 2) := by decide +kernel
theorem dX4_narrowed_11 : decode cX4_narrowed 11 = .ok (.lushr, 1) := by decide +kernel
theorem dX4_narrowed_12 : decode cX4_narrowed 12 = .ok (.ldc2_w 74, 3) := by decide +kernel
theorem dX4_narrowed_15 : decode cX4_narrowed 15 = .ok (.land, 1) := by decide +kernel
theorem dX4_narrowed_16 : decode cX4_narrowed 16 = .ok (.l2i, 1) := by decide +kernel
theorem dX4_narrowed_17 : decode cX4_narrowed 17 = .ok (.sipush 1023, 3) := by decide +kernel
theorem dX4_narrowed_20 : decode cX4_narrowed 20 = .ok (.isub, 1) := by decide +kernel
theorem dX4_narrowed_21 : decode cX4_narrowed 21 = .ok (.istore_n 2, 1) := by decide +kernel
theorem dX4_narrowed_22 : decode cX4_narrowed 22 = .ok (.lload_n 0, 1) := by decide +kernel
theorem dX4_narrowed_23 : decode cX4_narrowed 23 = .ok (.ldc2_w 76, 3) := by decide +kernel
theorem dX4_narrowed_26 : decode cX4_narrowed 26 = .ok (.land, 1) := by decide +kernel
theorem dX4_narrowed_27 : decode cX4_narrowed 27 = .ok (.bipush 29, 2) := by decide +kernel
theorem dX4_narrowed_29 : decode cX4_narrowed 29 = .ok (.lushr, 1) := by decide +kernel
theorem dX4_narrowed_30 : decode cX4_narrowed 30 = .ok (.lstore_n 3, 1) := by decide +kernel
theorem dX4_narrowed_31 : decode cX4_narrowed 31 = .ok (.iload_n 2, 1) := by decide +kernel
theorem dX4_narrowed_32 : decode cX4_narrowed 32 = .ok (.bipush 127, 2) := by decide +kernel
theorem dX4_narrowed_34 : decode cX4_narrowed 34 = .ok (.iadd, 1) := by decide +kernel
theorem dX4_narrowed_35 : decode cX4_narrowed 35 = .ok (.i2l, 1) := by decide +kernel
theorem dX4_narrowed_36 : decode cX4_narrowed 36 = .ok (.bipush 23, 2) := by decide +kernel
theorem dX4_narrowed_38 : decode cX4_narrowed 38 = .ok (.lshl, 1) := by decide +kernel
theorem dX4_narrowed_39 : decode cX4_narrowed 39 = .ok (.lload_n 3, 1) := by decide +kernel
theorem dX4_narrowed_40 : decode cX4_narrowed 40 = .ok (.lor, 1) := by decide +kernel
theorem dX4_narrowed_41 : decode cX4_narrowed 41 = .ok (.lstore 5, 2) := by decide +kernel
theorem dX4_narrowed_43 : decode cX4_narrowed 43 = .ok (.lload_n 0, 1) := by decide +kernel
theorem dX4_narrowed_44 : decode cX4_narrowed 44 = .ok (.lconst 0, 1) := by decide +kernel
theorem dX4_narrowed_45 : decode cX4_narrowed 45 = .ok (.lcmp, 1) := by decide +kernel
theorem dX4_narrowed_46 : decode cX4_narrowed 46 = .ok (.ifCond .ge 12, 3) := by decide +kernel
theorem dX4_narrowed_49 : decode cX4_narrowed 49 = .ok (.lload 5, 2) := by decide +kernel
theorem dX4_narrowed_51 : decode cX4_narrowed 51 = .ok (.ldc2_w 62, 3) := by decide +kernel
theorem dX4_narrowed_54 : decode cX4_narrowed 54 = .ok (.lor, 1) := by decide +kernel
theorem dX4_narrowed_55 : decode cX4_narrowed 55 = .ok (.goto 5, 3) := by decide +kernel
theorem dX4_narrowed_58 : decode cX4_narrowed 58 = .ok (.lload 5, 2) := by decide +kernel
theorem dX4_narrowed_60 : decode cX4_narrowed 60 = .ok (.lreturn, 1) := by decide +kernel
theorem dX4_widened_0 : decode cX4_widened 0 = .ok (.lload_n 0, 1) := by decide +kernel
theorem dX4_widened_1 : decode cX4_widened 1 = .ok (.ldc2_w 39, 3) := by decide +kernel
theorem dX4_widened_4 : decode cX4_widened 4 = .ok (.land, 1) := by decide +kernel
theorem dX4_widened_5 : decode cX4_widened 5 = .ok (.lconst 0, 1) := by decide +kernel
theorem dX4_widened_6 : decode cX4_widened 6 = .ok (.lcmp, 1) := by decide +kernel
theorem dX4_widened_7 : decode cX4_widened 7 = .ok (.ifCond .ne 17, 3) := by decide +kernel
theorem dX4_widened_10 : decode cX4_widened 10 = .ok (.lload_n 0, 1) := by decide +kernel
theorem dX4_widened_11 : decode cX4_widened 11 = .ok (.lconst 0, 1) := by decide +kernel
theorem dX4_widened_12 : decode cX4_widened 12 = .ok (.lcmp, 1) := by decide +kernel
theorem dX4_widened_13 : decode cX4_widened 13 = .ok (.ifCond .ge 9, 3) := by decide +kernel
theorem dX4_widened_16 : decode cX4_widened 16 = .ok (.ldc2_w 64, 3) := by decide +kernel
theorem dX4_widened_19 : decode cX4_widened 19 = .ok (.goto 4, 3) := by decide +kernel
theorem dX4_widened_22 : decode cX4_widened 22 = .ok (.lconst 0, 1) := by decide +kernel
theorem dX4_widened_23 : decode cX4_widened 23 = .ok (.lreturn, 1) := by decide +kernel
theorem dX4_widened_24 : decode cX4_widened 24 = .ok (.lload_n 0, 1) := by decide +kernel
theorem dX4_widened_25 : decode cX4_widened 25 = .ok (.bipush 23, 2) := by decide +kernel
theorem dX4_widened_27 : decode cX4_widened 27 = .ok (.lushr, 1) := by decide +kernel
theorem dX4_widened_28 : decode cX4_widened 28 = .ok (.ldc2_w 78, 3) := by decide +kernel
theorem dX4_widened_31 : decode cX4_widened 31 = .ok (.land, 1) := by decide +kernel
theorem dX4_widened_32 : decode cX4_widened 32 = .ok (.l2i, 1) := by decide +kernel
theorem dX4_widened_33 : decode cX4_widened 33 = .ok (.bipush 127, 2) := by decide +kernel
theorem dX4_widened_35 : decode cX4_widened 35 = .ok (.isub, 1) := by decide +kernel
theorem dX4_widened_36 : decode cX4_widened 36 = .ok (.istore_n 2, 1) := by decide +kernel
theorem dX4_widened_37 : decode cX4_widened 37 = .ok (.lload_n 0, 1) := by decide +kernel
theorem dX4_widened_38 : decode cX4_widened 38 = .ok (.ldc2_w 80, 3) := by decide +kernel
theorem dX4_widened_41 : decode cX4_widened 41 = .ok (.land, 1) := by decide +kernel
theorem dX4_widened_42 : decode cX4_widened 42 = .ok (.bipush 29, 2) := by decide +kernel
theorem dX4_widened_44 : decode cX4_widened 44 = .ok (.lshl, 1) := by decide +kernel
theorem dX4_widened_45 : decode cX4_widened 45 = .ok (.lstore_n 3, 1) := by decide +kernel
theorem dX4_widened_46 : decode cX4_widened 46 = .ok (.iload_n 2, 1) := by decide +kernel
theorem dX4_widened_47 : decode cX4_widened 47 = .ok (.sipush 1023, 3) := by decide +kernel
theorem dX4_widened_50 : decode cX4_widened 50 = .ok (.iadd, 1) := by decide +kernel
theorem dX4_widened_51 : decode cX4_widened 51 = .ok (.i2l, 1) := by decide +kernel
theorem dX4_widened_52 : decode cX4_widened 52 = .ok (.bipush 52, 2) := by decide +kernel
theorem dX4_widened_54 : decode cX4_widened 54 = .ok (.lshl, 1) := by decide +kernel
theorem dX4_widened_55 : decode cX4_widened 55 = .ok (.lload_n 3, 1) := by decide +kernel
theorem dX4_widened_56 : decode cX4_widened 56 = .ok (.lor, 1) := by decide +kernel
theorem dX4_widened_57 : decode cX4_widened 57 = .ok (.lstore 5, 2) := by decide +kernel
theorem dX4_widened_59 : decode cX4_widened 59 = .ok (.lload_n 0, 1) := by decide +kernel
theorem dX4_widened_60 : decode cX4_widened 60 = .ok (.lconst 0, 1) := by decide +kernel
theorem dX4_widened_61 : decode cX4_widened 61 = .ok (.lcmp, 1) := by decide +kernel
theorem dX4_widened_62 : decode cX4_widened 62 = .ok (.ifCond .ge 12, 3) := by decide +kernel
theorem dX4_widened_65 : decode cX4_widened 65 = .ok (.lload 5, 2) := by decide +kernel
theorem dX4_widened_67 : decode cX4_widened 67 = .ok (.ldc2_w 64, 3) := by decide +kernel
theorem dX4_widened_70 : decode cX4_widened 70 = .ok (.lor, 1) := by decide +kernel
theorem dX4_widened_71 : decode cX4_widened 71 = .ok (.goto 5, 3) := by decide +kernel
theorem dX4_widened_74 : decode cX4_widened 74 = .ok (.lload 5, 2) := by decide +kernel
theorem dX4_widened_76 : decode cX4_widened 76 = .ok (.lreturn, 1) := by decide +kernel
theorem dX4_cutToWhole_0 : decode cX4_cutToWhole 0 = .ok (.lload_n 0, 1) := by decide +kernel
theorem dX4_cutToWhole_1 : decode cX4_cutToWhole 1 = .ok (.bipush 52, 2) := by decide +kernel
theorem dX4_cutToWhole_3 : decode cX4_cutToWhole 3 = .ok (.lushr, 1) := by decide +kernel
theorem dX4_cutToWhole_4 : decode cX4_cutToWhole 4 = .ok (.ldc2_w 74, 3) := by decide +kernel
theorem dX4_cutToWhole_7 : decode cX4_cutToWhole 7 = .ok (.land, 1) := by decide +kernel
theorem dX4_cutToWhole_8 : decode cX4_cutToWhole 8 = .ok (.l2i, 1) := by decide +kernel
theorem dX4_cutToWhole_9 : decode cX4_cutToWhole 9 = .ok (.sipush 1023, 3) := by decide +kernel
theorem dX4_cutToWhole_12 : decode cX4_cutToWhole 12 = .ok (.isub, 1) := by decide +kernel
theorem dX4_cutToWhole_13 : decode cX4_cutToWhole 13 = .ok (.istore_n 2, 1) := by decide +kernel
theorem dX4_cutToWhole_14 : decode cX4_cutToWhole 14 = .ok (.iload_n 2, 1) := by decide +kernel
theorem dX4_cutToWhole_15 : decode cX4_cutToWhole 15 = .ok (.ifCond .ge 5, 3) := by decide +kernel
theorem dX4_cutToWhole_18 : decode cX4_cutToWhole 18 = .ok (.lconst 0, 1) := by decide +kernel
theorem dX4_cutToWhole_19 : decode cX4_cutToWhole 19 = .ok (.lreturn, 1) := by decide +kernel
theorem dX4_cutToWhole_20 : decode cX4_cutToWhole 20 = .ok (.iload_n 2, 1) := by decide +kernel
theorem dX4_cutToWhole_21 : decode cX4_cutToWhole 21 = .ok (.bipush 62, 2) := by decide +kernel
theorem dX4_cutToWhole_23 : decode cX4_cutToWhole 23 = .ok (.if_icmp .le 19, 3) := by decide +kernel
theorem dX4_cutToWhole_26 : decode cX4_cutToWhole 26 = .ok (.lload_n 0, 1) := by decide +kernel
theorem dX4_cutToWhole_27 : decode cX4_cutToWhole 27 = .ok (.lconst 0, 1) := by decide +kernel
theorem dX4_cutToWhole_28 : decode cX4_cutToWhole 28 = .ok (.lcmp, 1) := by decide +kernel
theorem dX4_cutToWhole_29 : decode cX4_cutToWhole 29 = .ok (.ifCond .ge 9, 3) := by decide +kernel
theorem dX4_cutToWhole_32 : decode cX4_cutToWhole 32 = .ok (.ldc2_w 64, 3) := by decide +kernel
theorem dX4_cutToWhole_35 : decode cX4_cutToWhole 35 = .ok (.goto 6, 3) := by decide +kernel
theorem dX4_cutToWhole_38 : decode cX4_cutToWhole 38 = .ok (.ldc2_w 43, 3) := by decide +kernel
theorem dX4_cutToWhole_41 : decode cX4_cutToWhole 41 = .ok (.lreturn, 1) := by decide +kernel
theorem dX4_cutToWhole_42 : decode cX4_cutToWhole 42 = .ok (.lload_n 0, 1) := by decide +kernel
theorem dX4_cutToWhole_43 : decode cX4_cutToWhole 43 = .ok (.ldc2_w 76, 3) := by decide +kernel
theorem dX4_cutToWhole_46 : decode cX4_cutToWhole 46 = .ok (.land, 1) := by decide +kernel
theorem dX4_cutToWhole_47 : decode cX4_cutToWhole 47 = .ok (.ldc2_w 82, 3) := by decide +kernel
theorem dX4_cutToWhole_50 : decode cX4_cutToWhole 50 = .ok (.lor, 1) := by decide +kernel
theorem dX4_cutToWhole_51 : decode cX4_cutToWhole 51 = .ok (.lstore_n 3, 1) := by decide +kernel
theorem dX4_cutToWhole_52 : decode cX4_cutToWhole 52 = .ok (.iload_n 2, 1) := by decide +kernel
theorem dX4_cutToWhole_53 : decode cX4_cutToWhole 53 = .ok (.bipush 52, 2) := by decide +kernel
theorem dX4_cutToWhole_55 : decode cX4_cutToWhole 55 = .ok (.isub, 1) := by decide +kernel
theorem dX4_cutToWhole_56 : decode cX4_cutToWhole 56 = .ok (.istore 5, 2) := by decide +kernel
theorem dX4_cutToWhole_58 : decode cX4_cutToWhole 58 = .ok (.iload 5, 2) := by decide +kernel
theorem dX4_cutToWhole_60 : decode cX4_cutToWhole 60 = .ok (.ifCond .lt 10, 3) := by decide +kernel
theorem dX4_cutToWhole_63 : decode cX4_cutToWhole 63 = .ok (.lload_n 3, 1) := by decide +kernel
theorem dX4_cutToWhole_64 : decode cX4_cutToWhole 64 = .ok (.iload 5, 2) := by decide +kernel
theorem dX4_cutToWhole_66 : decode cX4_cutToWhole 66 = .ok (.lshl, 1) := by decide +kernel
theorem dX4_cutToWhole_67 : decode cX4_cutToWhole 67 = .ok (.goto 8, 3) := by decide +kernel
theorem dX4_cutToWhole_70 : decode cX4_cutToWhole 70 = .ok (.lload_n 3, 1) := by decide +kernel
theorem dX4_cutToWhole_71 : decode cX4_cutToWhole 71 = .ok (.iload 5, 2) := by decide +kernel
theorem dX4_cutToWhole_73 : decode cX4_cutToWhole 73 = .ok (.ineg, 1) := by decide +kernel
theorem dX4_cutToWhole_74 : decode cX4_cutToWhole 74 = .ok (.lushr, 1) := by decide +kernel
theorem dX4_cutToWhole_75 : decode cX4_cutToWhole 75 = .ok (.lstore 6, 2) := by decide +kernel
theorem dX4_cutToWhole_77 : decode cX4_cutToWhole 77 = .ok (.lload_n 0, 1) := by decide +kernel
theorem dX4_cutToWhole_78 : decode cX4_cutToWhole 78 = .ok (.lconst 0, 1) := by decide +kernel
theorem dX4_cutToWhole_79 : decode cX4_cutToWhole 79 = .ok (.lcmp, 1) := by decide +kernel
theorem dX4_cutToWhole_80 : decode cX4_cutToWhole 80 = .ok (.ifCond .ge 9, 3) := by decide +kernel
theorem dX4_cutToWhole_83 : decode cX4_cutToWhole 83 = .ok (.lload 6, 2) := by decide +kernel
theorem dX4_cutToWhole_85 : decode cX4_cutToWhole 85 = .ok (.lneg, 1) := by decide +kernel
theorem dX4_cutToWhole_86 : decode cX4_cutToWhole 86 = .ok (.goto 5, 3) := by decide +kernel
theorem dX4_cutToWhole_89 : decode cX4_cutToWhole 89 = .ok (.lload 6, 2) := by decide +kernel
theorem dX4_cutToWhole_91 : decode cX4_cutToWhole 91 = .ok (.lreturn, 1) := by decide +kernel
theorem dX5_init_0 : decode cX5_init 0 = .ok (.aload_n 0, 1) := by decide +kernel
theorem dX5_init_1 : decode cX5_init 1 = .ok (.invokespecial 3, 3) := by decide +kernel
theorem dX5_init_4 : decode cX5_init 4 = .ok (.aload_n 0, 1) := by decide +kernel
theorem dX5_init_5 : decode cX5_init 5 = .ok (.iconst 0, 1) := by decide +kernel
theorem dX5_init_6 : decode cX5_init 6 = .ok (.putfield 9, 3) := by decide +kernel
theorem dX5_init_9 : decode cX5_init 9 = .ok (.aload_n 0, 1) := by decide +kernel
theorem dX5_init_10 : decode cX5_init 10 = .ok (.iconst 0, 1) := by decide +kernel
theorem dX5_init_11 : decode cX5_init 11 = .ok (.putfield 15, 3) := by decide +kernel
theorem dX5_init_14 : decode cX5_init 14 = .ok (.aload_n 0, 1) := by decide +kernel
theorem dX5_init_15 : decode cX5_init 15 = .ok (.iconst 0, 1) := by decide +kernel
theorem dX5_init_16 : decode cX5_init 16 = .ok (.putfield 18, 3) := by decide +kernel
theorem dX5_init_19 : decode cX5_init 19 = .ok (.aload_n 0, 1) := by decide +kernel
theorem dX5_init_20 : decode cX5_init 20 = .ok (.iconst 0, 1) := by decide +kernel
theorem dX5_init_21 : decode cX5_init 21 = .ok (.putfield 22, 3) := by decide +kernel
theorem dX5_init_24 : decode cX5_init 24 = .ok (.aload_n 0, 1) := by decide +kernel
theorem dX5_init_25 : decode cX5_init 25 = .ok (.iconst 0, 1) := by decide +kernel
theorem dX5_init_26 : decode cX5_init 26 = .ok (.putfield 25, 3) := by decide +kernel
theorem dX5_init_29 : decode cX5_init 29 = .ok (.aload_n 0, 1) := by decide +kernel
theorem dX5_init_30 : decode cX5_init 30 = .ok (.iconst 0, 1) := by decide +kernel
theorem dX5_init_31 : decode cX5_init 31 = .ok (.putfield 28, 3) := by decide +kernel
theorem dX5_init_34 : decode cX5_init 34 = .ok (.aload_n 0, 1) := by decide +kernel
theorem dX5_init_35 : decode cX5_init 35 = .ok (.bipush 8, 2) := by decide +kernel
theorem dX5_init_37 : decode cX5_init 37 = .ok (.putfield 31, 3) := by decide +kernel
theorem dX5_init_40 : decode cX5_init 40 = .ok (.aload_n 0, 1) := by decide +kernel
theorem dX5_init_41 : decode cX5_init 41 = .ok (.iconst 0, 1) := by decide +kernel
theorem dX5_init_42 : decode cX5_init 42 = .ok (.putfield 34, 3) := by decide +kernel
theorem dX5_init_45 : decode cX5_init 45 = .ok (.return_, 1) := by decide +kernel
theorem dX6_init_0 : decode cX6_init 0 = .ok (.aload_n 0, 1) := by decide +kernel
theorem dX6_init_1 : decode cX6_init 1 = .ok (.invokespecial 3, 3) := by decide +kernel
theorem dX6_init_4 : decode cX6_init 4 = .ok (.aload_n 0, 1) := by decide +kernel
theorem dX6_init_5 : decode cX6_init 5 = .ok (.sipush 673, 3) := by decide +kernel
theorem dX6_init_8 : decode cX6_init 8 = .ok (.newarray .byte, 2) := by decide +kernel
theorem dX6_init_10 : decode cX6_init 10 = .ok (.putfield 9, 3) := by decide +kernel
theorem dX6_init_13 : decode cX6_init 13 = .ok (.aload_n 0, 1) := by decide +kernel
theorem dX6_init_14 : decode cX6_init 14 = .ok (.bipush 19, 2) := by decide +kernel
theorem dX6_init_16 : decode cX6_init 16 = .ok (.newarray .byte, 2) := by decide +kernel
theorem dX6_init_18 : decode cX6_init 18 = .ok (.putfield 15, 3) := by decide +kernel
theorem dX6_init_21 : decode cX6_init 21 = .ok (.aload_n 0, 1) := by decide +kernel
theorem dX6_init_22 : decode cX6_init 22 = .ok (.iconst 0, 1) := by decide +kernel
theorem dX6_init_23 : decode cX6_init 23 = .ok (.putfield 18, 3) := by decide +kernel
theorem dX6_init_26 : decode cX6_init 26 = .ok (.return_, 1) := by decide +kernel
theorem dX6_letterAt_0 : decode cX6_letterAt 0 = .ok (.iload_n 1, 1) := by decide +kernel
theorem dX6_letterAt_1 : decode cX6_letterAt 1 = .ok (.ifCond .lt 29, 3) := by decide +kernel
theorem dX6_letterAt_4 : decode cX6_letterAt 4 = .ok (.iload_n 1, 1) := by decide +kernel
theorem dX6_letterAt_5 : decode cX6_letterAt 5 = .ok (.aload_n 0, 1) := by decide +kernel
theorem dX6_letterAt_6 : decode cX6_letterAt 6 = .ok (.getfield 18, 3) := by decide +kernel
theorem dX6_letterAt_9 : decode cX6_letterAt 9 = .ok (.if_icmp .ge 21, 3) := by decide +kernel
theorem dX6_letterAt_12 : decode cX6_letterAt 12 = .ok (.iload_n 1, 1) := by decide +kernel
theorem dX6_letterAt_13 : decode cX6_letterAt 13 = .ok (.aload_n 0, 1) := by decide +kernel
theorem dX6_letterAt_14 : decode cX6_letterAt 14 = .ok (.getfield 9, 3) := by decide +kernel
theorem dX6_letterAt_17 : decode cX6_letterAt 17 = .ok (.arraylength, 1) := by decide +kernel
theorem dX6_letterAt_18 : decode cX6_letterAt 18 = .ok (.if_icmp .ge 12, 3) := by decide +kernel
theorem dX6_letterAt_21 : decode cX6_letterAt 21 = .ok (.aload_n 0, 1) := by decide +kernel
theorem dX6_letterAt_22 : decode cX6_letterAt 22 = .ok (.getfield 9, 3) := by decide +kernel
theorem dX6_letterAt_25 : decode cX6_letterAt 25 = .ok (.iload_n 1, 1) := by decide +kernel
theorem dX6_letterAt_26 : decode cX6_letterAt 26 = .ok (.baload, 1) := by decide +kernel
theorem dX6_letterAt_27 : decode cX6_letterAt 27 = .ok (.goto 4, 3) := by decide +kernel
theorem dX6_letterAt_30 : decode cX6_letterAt 30 = .ok (.iconst (-1), 1) := by decide +kernel
theorem dX6_letterAt_31 : decode cX6_letterAt 31 = .ok (.ireturn, 1) := by decide +kernel
theorem dX6_become_0 : decode cX6_become 0 = .ok (.aload_n 0, 1) := by decide +kernel
theorem dX6_become_1 : decode cX6_become 1 = .ok (.iconst 0, 1) := by decide +kernel
theorem dX6_become_2 : decode cX6_become 2 = .ok (.putfield 18, 3) := by decide +kernel
theorem dX6_become_5 : decode cX6_become 5 = .ok (.aload_n 1, 1) := by decide +kernel
theorem dX6_become_6 : decode cX6_become 6 = .ok (.getfield 22, 3) := by decide +kernel
theorem dX6_become_9 : decode cX6_become 9 = .ok (.ifCond .lt 28, 3) := by decide +kernel
theorem dX6_become_12 : decode cX6_become 12 = .ok (.aload_n 1, 1) := by decide +kernel
theorem dX6_become_13 : decode cX6_become 13 = .ok (.getfield 22, 3) := by decide +kernel
theorem dX6_become_16 : decode cX6_become 16 = .ok (.ldc 27, 2) := by decide +kernel
theorem dX6_become_18 : decode cX6_become 18 = .ok (.invokevirtual 29, 3) := by decide +kernel
theorem dX6_become_21 : decode cX6_become 21 = .ok (.if_icmp .ge 16, 3) := by decide +kernel
theorem dX6_become_24 : decode cX6_become 24 = .ok (.aload_n 0, 1) := by decide +kernel
theorem dX6_become_25 : decode cX6_become 25 = .ok (.ldc 27, 2) := by decide +kernel
theorem dX6_become_27 : decode cX6_become 27 = .ok (.aload_n 1, 1) := by decide +kernel
theorem dX6_become_28 : decode cX6_become 28 = .ok (.getfield 22, 3) := by decide +kernel
theorem dX6_become_31 : decode cX6_become 31 = .ok (.invokevirtual 34, 3) := by decide +kernel
theorem dX6_become_34 : decode cX6_become 34 = .ok (.invokevirtual 38, 3) := by decide +kernel
theorem dX6_become_37 : decode cX6_become 37 = .ok (.iconst 0, 1) := by decide +kernel
theorem dX6_become_38 : decode cX6_become 38 = .ok (.istore_n 2, 1) := by decide +kernel
theorem dX6_become_39 : decode cX6_become 39 = .ok (.iload_n 2, 1) := by decide +kernel
theorem dX6_become_40 : decode cX6_become 40 = .ok (.aload_n 1, 1) := by decide +kernel
theorem dX6_become_41 : decode cX6_become 41 = .ok (.invokevirtual 42, 3) := by decide +kernel
theorem dX6_become_44 : decode cX6_become 44 = .ok (.if_icmp .ge 29, 3) := by decide +kernel
theorem dX6_become_47 : decode cX6_become 47 = .ok (.aload_n 0, 1) := by decide +kernel
theorem dX6_become_48 : decode cX6_become 48 = .ok (.bipush 32, 2) := by decide +kernel
theorem dX6_become_50 : decode cX6_become 50 = .ok (.invokevirtual 38, 3) := by decide +kernel
theorem dX6_become_53 : decode cX6_become 53 = .ok (.aload_n 0, 1) := by decide +kernel
theorem dX6_become_54 : decode cX6_become 54 = .ok (.aload_n 1, 1) := by decide +kernel
theorem dX6_become_55 : decode cX6_become 55 = .ok (.iload_n 2, 1) := by decide +kernel
theorem dX6_become_56 : decode cX6_become 56 = .ok (.invokevirtual 45, 3) := by decide +kernel
theorem dX6_become_59 : decode cX6_become 59 = .ok (.aload_n 1, 1) := by decide +kernel
theorem dX6_become_60 : decode cX6_become 60 = .ok (.iload_n 2, 1) := by decide +kernel
theorem dX6_become_61 : decode cX6_become 61 = .ok (.invokevirtual 49, 3) := by decide +kernel
theorem dX6_become_64 : decode cX6_become 64 = .ok (.invokevirtual 53, 3) := by decide +kernel
theorem dX6_become_67 : decode cX6_become 67 = .ok (.iinc 2 1, 3) := by decide +kernel
theorem dX6_become_70 : decode cX6_become 70 = .ok (.goto (-31), 3) := by decide +kernel
theorem dX6_become_73 : decode cX6_become 73 = .ok (.return_, 1) := by decide +kernel
theorem dX6_addBox_0 : decode cX6_addBox 0 = .ok (.iload_n 1, 1) := by decide +kernel
theorem dX6_addBox_1 : decode cX6_addBox 1 = .ok (.bipush 8, 2) := by decide +kernel
theorem dX6_addBox_3 : decode cX6_addBox 3 = .ok (.if_icmp .ne 10, 3) := by decide +kernel
theorem dX6_addBox_6 : decode cX6_addBox 6 = .ok (.aload_n 0, 1) := by decide +kernel
theorem dX6_addBox_7 : decode cX6_addBox 7 = .ok (.bipush 45, 2) := by decide +kernel
theorem dX6_addBox_9 : decode cX6_addBox 9 = .ok (.invokevirtual 38, 3) := by decide +kernel
theorem dX6_addBox_12 : decode cX6_addBox 12 = .ok (.return_, 1) := by decide +kernel
theorem dX6_addBox_13 : decode cX6_addBox 13 = .ok (.iload_n 1, 1) := by decide +kernel
theorem dX6_addBox_14 : decode cX6_addBox 14 = .ok (.bipush 9, 2) := by decide +kernel
theorem dX6_addBox_16 : decode cX6_addBox 16 = .ok (.if_icmp .ne 12, 3) := by decide +kernel
theorem dX6_addBox_19 : decode cX6_addBox 19 = .ok (.aload_n 0, 1) := by decide +kernel
theorem dX6_addBox_20 : decode cX6_addBox 20 = .ok (.bipush 108, 2) := by decide +kernel
theorem dX6_addBox_22 : decode cX6_addBox 22 = .ok (.invokevirtual 38, 3) := by decide +kernel
theorem dX6_addBox_25 : decode cX6_addBox 25 = .ok (.goto 15, 3) := by decide +kernel
theorem dX6_addBox_28 : decode cX6_addBox 28 = .ok (.iload_n 1, 1) := by decide +kernel
theorem dX6_addBox_29 : decode cX6_addBox 29 = .ok (.bipush 10, 2) := by decide +kernel
theorem dX6_addBox_31 : decode cX6_addBox 31 = .ok (.if_icmp .ne 9, 3) := by decide +kernel
theorem dX6_addBox_34 : decode cX6_addBox 34 = .ok (.aload_n 0, 1) := by decide +kernel
theorem dX6_addBox_35 : decode cX6_addBox 35 = .ok (.bipush 119, 2) := by decide +kernel
theorem dX6_addBox_37 : decode cX6_addBox 37 = .ok (.invokevirtual 38, 3) := by decide +kernel
theorem dX6_addBox_40 : decode cX6_addBox 40 = .ok (.aload_n 0, 1) := by decide +kernel
theorem dX6_addBox_41 : decode cX6_addBox 41 = .ok (.lload_n 2, 1) := by decide +kernel
theorem dX6_addBox_42 : decode cX6_addBox 42 = .ok (.invokevirtual 57, 3) := by decide +kernel
theorem dX6_addBox_45 : decode cX6_addBox 45 = .ok (.return_, 1) := by decide +kernel
theorem dX6_addNumber_0 : decode cX6_addNumber 0 = .ok (.lload_n 1, 1) := by decide +kernel
theorem dX6_addNumber_1 : decode cX6_addNumber 1 = .ok (.lconst 0, 1) := by decide +kernel
theorem dX6_addNumber_2 : decode cX6_addNumber 2 = .ok (.lcmp, 1) := by decide +kernel
theorem dX6_addNumber_3 : decode cX6_addNumber 3 = .ok (.ifCond .ge 9, 3) := by decide +kernel
theorem dX6_addNumber_6 : decode cX6_addNumber 6 = .ok (.aload_n 0, 1) := by decide +kernel
theorem dX6_addNumber_7 : decode cX6_addNumber 7 = .ok (.bipush 45, 2) := by decide +kernel
theorem dX6_addNumber_9 : decode cX6_addNumber 9 = .ok (.invokevirtual 38, 3) := by decide +kernel
theorem dX6_addNumber_12 : decode cX6_addNumber 12 = .ok (.lload_n 1, 1) := by decide +kernel
theorem dX6_addNumber_13 : decode cX6_addNumber 13 = .ok (.lconst 0, 1) := by decide +kernel
theorem dX6_addNumber_14 : decode cX6_addNumber 14 = .ok (.lcmp, 1) := by decide +kernel
theorem dX6_addNumber_15 : decode cX6_addNumber 15 = .ok (.ifCond .ge 7, 3) := by decide +kernel
theorem dX6_addNumber_18 : decode cX6_addNumber 18 = .ok (.lload_n 1, 1) := by decide +kernel
theorem dX6_addNumber_19 : decode cX6_addNumber 19 = .ok (.goto 5, 3) := by decide +kernel
theorem dX6_addNumber_22 : decode cX6_addNumber 22 = .ok (.lload_n 1, 1) := by decide +kernel
theorem dX6_addNumber_23 : decode cX6_addNumber 23 = .ok (.lneg, 1) := by decide +kernel
theorem dX6_addNumber_24 : decode cX6_addNumber 24 = .ok (.lstore_n 3, 1) := by decide +kernel
theorem dX6_addNumber_25 : decode cX6_addNumber 25 = .ok (.aload_n 0, 1) := by decide +kernel
theorem dX6_addNumber_26 : decode cX6_addNumber 26 = .ok (.getfield 15, 3) := by decide +kernel
theorem dX6_addNumber_29 : decode cX6_addNumber 29 = .ok (.arraylength, 1) := by decide +kernel
theorem dX6_addNumber_30 : decode cX6_addNumber 30 = .ok (.istore 5, 2) := by decide +kernel
theorem dX6_addNumber_32 : decode cX6_addNumber 32 = .ok (.iinc 5 (-1), 3) := by decide +kernel
theorem dX6_addNumber_35 : decode cX6_addNumber 35 = .ok (.aload_n 0, 1) := by decide +kernel
theorem dX6_addNumber_36 : decode cX6_addNumber 36 = .ok (.getfield 15, 3) := by decide +kernel
theorem dX6_addNumber_39 : decode cX6_addNumber 39 = .ok (.iload 5, 2) := by decide +kernel
theorem dX6_addNumber_41 : decode cX6_addNumber 41 = .ok (.ldc2_w 61, 3) := by decide +kernel
theorem dX6_addNumber_44 : decode cX6_addNumber 44 = .ok (.lload_n 3, 1) := by decide +kernel
theorem dX6_addNumber_45 : decode cX6_addNumber 45 = .ok (.ldc2_w 63, 3) := by decide +kernel
theorem dX6_addNumber_48 : decode cX6_addNumber 48 = .ok (.lrem, 1) := by decide +kernel
theorem dX6_addNumber_49 : decode cX6_addNumber 49 = .ok (.lsub, 1) := by decide +kernel
theorem dX6_addNumber_50 : decode cX6_addNumber 50 = .ok (.l2i, 1) := by decide +kernel
theorem dX6_addNumber_51 : decode cX6_addNumber 51 = .ok (.i2b, 1) := by decide +kernel
theorem dX6_addNumber_52 : decode cX6_addNumber 52 = .ok (.bastore, 1) := by decide +kernel
theorem dX6_addNumber_53 : decode cX6_addNumber 53 = .ok (.lload_n 3, 1) := by decide +kernel
theorem dX6_addNumber_54 : decode cX6_addNumber 54 = .ok (.ldc2_w 63, 3) := by decide +kernel
theorem dX6_addNumber_57 : decode cX6_addNumber 57 = .ok (.ldiv, 1) := by decide +kernel
theorem dX6_addNumber_58 : decode cX6_addNumber 58 = .ok (.lstore_n 3, 1) := by decide +kernel
theorem dX6_addNumber_59 : decode cX6_addNumber 59 = .ok (.lload_n 3, 1) := by decide +kernel
theorem dX6_addNumber_60 : decode cX6_addNumber 60 = .ok (.lconst 0, 1) := by decide +kernel
theorem dX6_addNumber_61 : decode cX6_addNumber 61 = .ok (.lcmp, 1) := by decide +kernel
theorem dX6_addNumber_62 : decode cX6_addNumber 62 = .ok (.ifCond .eq 8, 3) := by decide +kernel
theorem dX6_addNumber_65 : decode cX6_addNumber 65 = .ok (.iload 5, 2) := by decide +kernel
theorem dX6_addNumber_67 : decode cX6_addNumber 67 = .ok (.ifCond .gt (-35), 3) := by decide +kernel
theorem dX6_addNumber_70 : decode cX6_addNumber 70 = .ok (.iload 5, 2) := by decide +kernel
theorem dX6_addNumber_72 : decode cX6_addNumber 72 = .ok (.istore 6, 2) := by decide +kernel
theorem dX6_addNumber_74 : decode cX6_addNumber 74 = .ok (.iload 6, 2) := by decide +kernel
theorem dX6_addNumber_76 : decode cX6_addNumber 76 = .ok (.aload_n 0, 1) := by decide +kernel
theorem dX6_addNumber_77 : decode cX6_addNumber 77 = .ok (.getfield 15, 3) := by decide +kernel
theorem dX6_addNumber_80 : decode cX6_addNumber 80 = .ok (.arraylength, 1) := by decide +kernel
theorem dX6_addNumber_81 : decode cX6_addNumber 81 = .ok (.if_icmp .ge 21, 3) := by decide +kernel
theorem dX6_addNumber_84 : decode cX6_addNumber 84 = .ok (.aload_n 0, 1) := by decide +kernel
theorem dX6_addNumber_85 : decode cX6_addNumber 85 = .ok (.aload_n 0, 1) := by decide +kernel
theorem dX6_addNumber_86 : decode cX6_addNumber 86 = .ok (.getfield 15, 3) := by decide +kernel
theorem dX6_addNumber_89 : decode cX6_addNumber 89 = .ok (.iload 6, 2) := by decide +kernel
theorem dX6_addNumber_91 : decode cX6_addNumber 91 = .ok (.baload, 1) := by decide +kernel
theorem dX6_addNumber_92 : decode cX6_addNumber 92 = .ok (.i2c, 1) := by decide +kernel
theorem dX6_addNumber_93 : decode cX6_addNumber 93 = .ok (.invokevirtual 38, 3) := by decide +kernel
theorem dX6_addNumber_96 : decode cX6_addNumber 96 = .ok (.iinc 6 1, 3) := by decide +kernel
theorem dX6_addNumber_99 : decode cX6_addNumber 99 = .ok (.goto (-25), 3) := by decide +kernel
theorem dX6_addNumber_102 : decode cX6_addNumber 102 = .ok (.return_, 1) := by decide +kernel
theorem dX6_add_0 : decode cX6_add 0 = .ok (.aload_n 0, 1) := by decide +kernel
theorem dX6_add_1 : decode cX6_add 1 = .ok (.getfield 18, 3) := by decide +kernel
theorem dX6_add_4 : decode cX6_add 4 = .ok (.ifCond .lt 36, 3) := by decide +kernel
theorem dX6_add_7 : decode cX6_add 7 = .ok (.aload_n 0, 1) := by decide +kernel
theorem dX6_add_8 : decode cX6_add 8 = .ok (.getfield 18, 3) := by decide +kernel
theorem dX6_add_11 : decode cX6_add 11 = .ok (.aload_n 0, 1) := by decide +kernel
theorem dX6_add_12 : decode cX6_add 12 = .ok (.getfield 9, 3) := by decide +kernel
theorem dX6_add_15 : decode cX6_add 15 = .ok (.arraylength, 1) := by decide +kernel
theorem dX6_add_16 : decode cX6_add 16 = .ok (.if_icmp .ge 24, 3) := by decide +kernel
theorem dX6_add_19 : decode cX6_add 19 = .ok (.aload_n 0, 1) := by decide +kernel
theorem dX6_add_20 : decode cX6_add 20 = .ok (.getfield 9, 3) := by decide +kernel
theorem dX6_add_23 : decode cX6_add 23 = .ok (.aload_n 0, 1) := by decide +kernel
theorem dX6_add_24 : decode cX6_add 24 = .ok (.getfield 18, 3) := by decide +kernel
theorem dX6_add_27 : decode cX6_add 27 = .ok (.iload_n 1, 1) := by decide +kernel
theorem dX6_add_28 : decode cX6_add 28 = .ok (.i2b, 1) := by decide +kernel
theorem dX6_add_29 : decode cX6_add 29 = .ok (.bastore, 1) := by decide +kernel
theorem dX6_add_30 : decode cX6_add 30 = .ok (.aload_n 0, 1) := by decide +kernel
theorem dX6_add_31 : decode cX6_add 31 = .ok (.dup, 1) := by decide +kernel
theorem dX6_add_32 : decode cX6_add 32 = .ok (.getfield 18, 3) := by decide +kernel
theorem dX6_add_35 : decode cX6_add 35 = .ok (.iconst 1, 1) := by decide +kernel
theorem dX6_add_36 : decode cX6_add 36 = .ok (.iadd, 1) := by decide +kernel
theorem dX6_add_37 : decode cX6_add 37 = .ok (.putfield 18, 3) := by decide +kernel
theorem dX6_add_40 : decode cX6_add 40 = .ok (.return_, 1) := by decide +kernel
theorem dX7_init_0 : decode cX7_init 0 = .ok (.aload_n 0, 1) := by decide +kernel
theorem dX7_init_1 : decode cX7_init 1 = .ok (.invokespecial 1, 3) := by decide +kernel
theorem dX7_init_4 : decode cX7_init 4 = .ok (.aload_n 0, 1) := by decide +kernel
theorem dX7_init_5 : decode cX7_init 5 = .ok (.aload_n 1, 1) := by decide +kernel
theorem dX7_init_6 : decode cX7_init 6 = .ok (.putfield 7, 3) := by decide +kernel
theorem dX7_init_9 : decode cX7_init 9 = .ok (.aload_n 0, 1) := by decide +kernel
theorem dX7_init_10 : decode cX7_init 10 = .ok (.iload_n 2, 1) := by decide +kernel
theorem dX7_init_11 : decode cX7_init 11 = .ok (.putfield 13, 3) := by decide +kernel
theorem dX7_init_14 : decode cX7_init 14 = .ok (.aload_n 0, 1) := by decide +kernel
theorem dX7_init_15 : decode cX7_init 15 = .ok (.iload_n 3, 1) := by decide +kernel
theorem dX7_init_16 : decode cX7_init 16 = .ok (.putfield 17, 3) := by decide +kernel
theorem dX7_init_19 : decode cX7_init 19 = .ok (.aload_n 0, 1) := by decide +kernel
theorem dX7_init_20 : decode cX7_init 20 = .ok (.lload 4, 2) := by decide +kernel
theorem dX7_init_22 : decode cX7_init 22 = .ok (.putfield 20, 3) := by decide +kernel
theorem dX7_init_25 : decode cX7_init 25 = .ok (.aload_n 0, 1) := by decide +kernel
theorem dX7_init_26 : decode cX7_init 26 = .ok (.iload 6, 2) := by decide +kernel
theorem dX7_init_28 : decode cX7_init 28 = .ok (.putfield 24, 3) := by decide +kernel
theorem dX7_init_31 : decode cX7_init 31 = .ok (.aload_n 0, 1) := by decide +kernel
theorem dX7_init_32 : decode cX7_init 32 = .ok (.lload 7, 2) := by decide +kernel
theorem dX7_init_34 : decode cX7_init 34 = .ok (.putfield 27, 3) := by decide +kernel
theorem dX7_init_37 : decode cX7_init 37 = .ok (.return_, 1) := by decide +kernel
theorem dX7_takeBack_0 : decode cX7_takeBack 0 = .ok (.aload_n 0, 1) := by decide +kernel
theorem dX7_takeBack_1 : decode cX7_takeBack 1 = .ok (.getfield 7, 3) := by decide +kernel
theorem dX7_takeBack_4 : decode cX7_takeBack 4 = .ok (.ifnull 22, 3) := by decide +kernel
theorem dX7_takeBack_7 : decode cX7_takeBack 7 = .ok (.aload_n 0, 1) := by decide +kernel
theorem dX7_takeBack_8 : decode cX7_takeBack 8 = .ok (.getfield 7, 3) := by decide +kernel
theorem dX7_takeBack_11 : decode cX7_takeBack 11 = .ok (.aload_n 0, 1) := by decide +kernel
theorem dX7_takeBack_12 : decode cX7_takeBack 12 = .ok (.getfield 13, 3) := by decide +kernel
theorem dX7_takeBack_15 : decode cX7_takeBack 15 = .ok (.aload_n 0, 1) := by decide +kernel
theorem dX7_takeBack_16 : decode cX7_takeBack 16 = .ok (.getfield 17, 3) := by decide +kernel
theorem dX7_takeBack_19 : decode cX7_takeBack 19 = .ok (.aload_n 0, 1) := by decide +kernel
theorem dX7_takeBack_20 : decode cX7_takeBack 20 = .ok (.getfield 20, 3) := by decide +kernel
theorem dX7_takeBack_23 : decode cX7_takeBack 23 = .ok (.invokevirtual 30, 3) := by decide +kernel
theorem dX7_takeBack_26 : decode cX7_takeBack 26 = .ok (.return_, 1) := by decide +kernel
theorem dX7_doAgain_0 : decode cX7_doAgain 0 = .ok (.aload_n 0, 1) := by decide +kernel
theorem dX7_doAgain_1 : decode cX7_doAgain 1 = .ok (.getfield 7, 3) := by decide +kernel
theorem dX7_doAgain_4 : decode cX7_doAgain 4 = .ok (.ifnull 22, 3) := by decide +kernel
theorem dX7_doAgain_7 : decode cX7_doAgain 7 = .ok (.aload_n 0, 1) := by decide +kernel
theorem dX7_doAgain_8 : decode cX7_doAgain 8 = .ok (.getfield 7, 3) := by decide +kernel
theorem dX7_doAgain_11 : decode cX7_doAgain 11 = .ok (.aload_n 0, 1) := by decide +kernel
theorem dX7_doAgain_12 : decode cX7_doAgain 12 = .ok (.getfield 13, 3) := by decide +kernel
theorem dX7_doAgain_15 : decode cX7_doAgain 15 = .ok (.aload_n 0, 1) := by decide +kernel
theorem dX7_doAgain_16 : decode cX7_doAgain 16 = .ok (.getfield 24, 3) := by decide +kernel
theorem dX7_doAgain_19 : decode cX7_doAgain 19 = .ok (.aload_n 0, 1) := by decide +kernel
theorem dX7_doAgain_20 : decode cX7_doAgain 20 = .ok (.getfield 27, 3) := by decide +kernel
theorem dX7_doAgain_23 : decode cX7_doAgain 23 = .ok (.invokevirtual 30, 3) := by decide +kernel
theorem dX7_doAgain_26 : decode cX7_doAgain 26 = .ok (.return_, 1) := by decide +kernel
theorem dX8_init_0 : decode cX8_init 0 = .ok (.aload_n 0, 1) := by decide +kernel
theorem dX8_init_1 : decode cX8_init 1 = .ok (.invokespecial 3, 3) := by decide +kernel
theorem dX8_init_4 : decode cX8_init 4 = .ok (.iconst 0, 1) := by decide +kernel
theorem dX8_init_5 : decode cX8_init 5 = .ok (.iload_n 2, 1) := by decide +kernel
theorem dX8_init_6 : decode cX8_init 6 = .ok (.invokestatic 9, 3) := by decide +kernel
theorem dX8_init_9 : decode cX8_init 9 = .ok (.istore_n 3, 1) := by decide +kernel
theorem dX8_init_10 : decode cX8_init 10 = .ok (.aload_n 0, 1) := by decide +kernel
theorem dX8_init_11 : decode cX8_init 11 = .ok (.iload_n 1, 1) := by decide +kernel
theorem dX8_init_12 : decode cX8_init 12 = .ok (.putfield 15, 3) := by decide +kernel
theorem dX8_init_15 : decode cX8_init 15 = .ok (.aload_n 0, 1) := by decide +kernel
theorem dX8_init_16 : decode cX8_init 16 = .ok (.iload_n 3, 1) := by decide +kernel
theorem dX8_init_17 : decode cX8_init 17 = .ok (.newarray .int, 2) := by decide +kernel
theorem dX8_init_19 : decode cX8_init 19 = .ok (.putfield 21, 3) := by decide +kernel
theorem dX8_init_22 : decode cX8_init 22 = .ok (.aload_n 0, 1) := by decide +kernel
theorem dX8_init_23 : decode cX8_init 23 = .ok (.iload_n 3, 1) := by decide +kernel
theorem dX8_init_24 : decode cX8_init 24 = .ok (.newarray .long, 2) := by decide +kernel
theorem dX8_init_26 : decode cX8_init 26 = .ok (.putfield 25, 3) := by decide +kernel
theorem dX8_init_29 : decode cX8_init 29 = .ok (.aload_n 0, 1) := by decide +kernel
theorem dX8_init_30 : decode cX8_init 30 = .ok (.iload_n 3, 1) := by decide +kernel
theorem dX8_init_31 : decode cX8_init 31 = .ok (.newarray .boolean, 2) := by decide +kernel
theorem dX8_init_33 : decode cX8_init 33 = .ok (.putfield 29, 3) := by decide +kernel
theorem dX8_init_36 : decode cX8_init 36 = .ok (.iload_n 1, 1) := by decide +kernel
theorem dX8_init_37 : decode cX8_init 37 = .ok (.bipush 8, 2) := by decide +kernel
theorem dX8_init_39 : decode cX8_init 39 = .ok (.if_icmp .ge 7, 3) := by decide +kernel
theorem dX8_init_42 : decode cX8_init 42 = .ok (.iload_n 1, 1) := by decide +kernel
theorem dX8_init_43 : decode cX8_init 43 = .ok (.goto 5, 3) := by decide +kernel
theorem dX8_init_46 : decode cX8_init 46 = .ok (.bipush 8, 2) := by decide +kernel
theorem dX8_init_48 : decode cX8_init 48 = .ok (.istore 4, 2) := by decide +kernel
theorem dX8_init_50 : decode cX8_init 50 = .ok (.iconst 0, 1) := by decide +kernel
theorem dX8_init_51 : decode cX8_init 51 = .ok (.istore 5, 2) := by decide +kernel
theorem dX8_init_53 : decode cX8_init 53 = .ok (.iload 5, 2) := by decide +kernel
theorem dX8_init_55 : decode cX8_init 55 = .ok (.iload_n 3, 1) := by decide +kernel
theorem dX8_init_56 : decode cX8_init 56 = .ok (.if_icmp .ge 18, 3) := by decide +kernel
theorem dX8_init_59 : decode cX8_init 59 = .ok (.aload_n 0, 1) := by decide +kernel
theorem dX8_init_60 : decode cX8_init 60 = .ok (.getfield 21, 3) := by decide +kernel
theorem dX8_init_63 : decode cX8_init 63 = .ok (.iload 5, 2) := by decide +kernel
theorem dX8_init_65 : decode cX8_init 65 = .ok (.iload 4, 2) := by decide +kernel
theorem dX8_init_67 : decode cX8_init 67 = .ok (.iastore, 1) := by decide +kernel
theorem dX8_init_68 : decode cX8_init 68 = .ok (.iinc 5 1, 3) := by decide +kernel
theorem dX8_init_71 : decode cX8_init 71 = .ok (.goto (-18), 3) := by decide +kernel
theorem dX8_init_74 : decode cX8_init 74 = .ok (.return_, 1) := by decide +kernel
theorem dX8_size_0 : decode cX8_size 0 = .ok (.aload_n 0, 1) := by decide +kernel
theorem dX8_size_1 : decode cX8_size 1 = .ok (.getfield 25, 3) := by decide +kernel
theorem dX8_size_4 : decode cX8_size 4 = .ok (.arraylength, 1) := by decide +kernel
theorem dX8_size_5 : decode cX8_size 5 = .ok (.ireturn, 1) := by decide +kernel
theorem dX8_has_0 : decode cX8_has 0 = .ok (.iload_n 1, 1) := by decide +kernel
theorem dX8_has_1 : decode cX8_has 1 = .ok (.ifCond .lt 16, 3) := by decide +kernel
theorem dX8_has_4 : decode cX8_has 4 = .ok (.iload_n 1, 1) := by decide +kernel
theorem dX8_has_5 : decode cX8_has 5 = .ok (.aload_n 0, 1) := by decide +kernel
theorem dX8_has_6 : decode cX8_has 6 = .ok (.getfield 25, 3) := by decide +kernel
theorem dX8_has_9 : decode cX8_has 9 = .ok (.arraylength, 1) := by decide +kernel
theorem dX8_has_10 : decode cX8_has 10 = .ok (.if_icmp .ge 7, 3) := by decide +kernel
theorem dX8_has_13 : decode cX8_has 13 = .ok (.iconst 1, 1) := by decide +kernel
theorem dX8_has_14 : decode cX8_has 14 = .ok (.goto 4, 3) := by decide +kernel
theorem dX8_has_17 : decode cX8_has 17 = .ok (.iconst 0, 1) := by decide +kernel
theorem dX8_has_18 : decode cX8_has 18 = .ok (.ireturn, 1) := by decide +kernel
theorem dX8_kindAt_0 : decode cX8_kindAt 0 = .ok (.aload_n 0, 1) := by decide +kernel
theorem dX8_kindAt_1 : decode cX8_kindAt 1 = .ok (.iload_n 1, 1) := by decide +kernel
theorem dX8_kindAt_2 : decode cX8_kindAt 2 = .ok (.invokevirtual 33, 3) := by decide +kernel
theorem dX8_kindAt_5 : decode cX8_kindAt 5 = .ok (.ifCond .eq 12, 3) := by decide +kernel
theorem dX8_kindAt_8 : decode cX8_kindAt 8 = .ok (.aload_n 0, 1) := by decide +kernel
theorem dX8_kindAt_9 : decode cX8_kindAt 9 = .ok (.getfield 21, 3) := by decide +kernel
theorem dX8_kindAt_12 : decode cX8_kindAt 12 = .ok (.iload_n 1, 1) := by decide +kernel
theorem dX8_kindAt_13 : decode cX8_kindAt 13 = .ok (.iaload, 1) := by decide +kernel
theorem dX8_kindAt_14 : decode cX8_kindAt 14 = .ok (.goto 5, 3) := by decide +kernel
theorem dX8_kindAt_17 : decode cX8_kindAt 17 = .ok (.bipush 8, 2) := by decide +kernel
theorem dX8_kindAt_19 : decode cX8_kindAt 19 = .ok (.ireturn, 1) := by decide +kernel
theorem dX8_valueAt_0 : decode cX8_valueAt 0 = .ok (.aload_n 0, 1) := by decide +kernel
theorem dX8_valueAt_1 : decode cX8_valueAt 1 = .ok (.iload_n 1, 1) := by decide +kernel
theorem dX8_valueAt_2 : decode cX8_valueAt 2 = .ok (.invokevirtual 33, 3) := by decide +kernel
theorem dX8_valueAt_5 : decode cX8_valueAt 5 = .ok (.ifCond .eq 12, 3) := by decide +kernel
theorem dX8_valueAt_8 : decode cX8_valueAt 8 = .ok (.aload_n 0, 1) := by decide +kernel
theorem dX8_valueAt_9 : decode cX8_valueAt 9 = .ok (.getfield 25, 3) := by decide +kernel
theorem dX8_valueAt_12 : decode cX8_valueAt 12 = .ok (.iload_n 1, 1) := by decide +kernel
theorem dX8_valueAt_13 : decode cX8_valueAt 13 = .ok (.laload, 1) := by decide +kernel
theorem dX8_valueAt_14 : decode cX8_valueAt 14 = .ok (.goto 4, 3) := by decide +kernel
theorem dX8_valueAt_17 : decode cX8_valueAt 17 = .ok (.lconst 0, 1) := by decide +kernel
theorem dX8_valueAt_18 : decode cX8_valueAt 18 = .ok (.lreturn, 1) := by decide +kernel
theorem dX8_setCell_0 : decode cX8_setCell 0 = .ok (.aload_n 0, 1) := by decide +kernel
theorem dX8_setCell_1 : decode cX8_setCell 1 = .ok (.iload_n 1, 1) := by decide +kernel
theorem dX8_setCell_2 : decode cX8_setCell 2 = .ok (.invokevirtual 33, 3) := by decide +kernel
theorem dX8_setCell_5 : decode cX8_setCell 5 = .ok (.ifCond .eq 17, 3) := by decide +kernel
theorem dX8_setCell_8 : decode cX8_setCell 8 = .ok (.aload_n 0, 1) := by decide +kernel
theorem dX8_setCell_9 : decode cX8_setCell 9 = .ok (.getfield 21, 3) := by decide +kernel
theorem dX8_setCell_12 : decode cX8_setCell 12 = .ok (.iload_n 1, 1) := by decide +kernel
theorem dX8_setCell_13 : decode cX8_setCell 13 = .ok (.iload_n 2, 1) := by decide +kernel
theorem dX8_setCell_14 : decode cX8_setCell 14 = .ok (.iastore, 1) := by decide +kernel
theorem dX8_setCell_15 : decode cX8_setCell 15 = .ok (.aload_n 0, 1) := by decide +kernel
theorem dX8_setCell_16 : decode cX8_setCell 16 = .ok (.getfield 25, 3) := by decide +kernel
theorem dX8_setCell_19 : decode cX8_setCell 19 = .ok (.iload_n 1, 1) := by decide +kernel
theorem dX8_setCell_20 : decode cX8_setCell 20 = .ok (.lload_n 3, 1) := by decide +kernel
theorem dX8_setCell_21 : decode cX8_setCell 21 = .ok (.lastore, 1) := by decide +kernel
theorem dX8_setCell_22 : decode cX8_setCell 22 = .ok (.return_, 1) := by decide +kernel
theorem dX8_touchCell_0 : decode cX8_touchCell 0 = .ok (.aload_n 0, 1) := by decide +kernel
theorem dX8_touchCell_1 : decode cX8_touchCell 1 = .ok (.iload_n 1, 1) := by decide +kernel
theorem dX8_touchCell_2 : decode cX8_touchCell 2 = .ok (.invokevirtual 33, 3) := by decide +kernel
theorem dX8_touchCell_5 : decode cX8_touchCell 5 = .ok (.ifCond .eq 10, 3) := by decide +kernel
theorem dX8_touchCell_8 : decode cX8_touchCell 8 = .ok (.aload_n 0, 1) := by decide +kernel
theorem dX8_touchCell_9 : decode cX8_touchCell 9 = .ok (.getfield 29, 3) := by decide +kernel
theorem dX8_touchCell_12 : decode cX8_touchCell 12 = .ok (.iload_n 1, 1) := by decide +kernel
theorem dX8_touchCell_13 : decode cX8_touchCell 13 = .ok (.iconst 1, 1) := by decide +kernel
theorem dX8_touchCell_14 : decode cX8_touchCell 14 = .ok (.bastore, 1) := by decide +kernel
theorem dX8_touchCell_15 : decode cX8_touchCell 15 = .ok (.return_, 1) := by decide +kernel
theorem dX8_touchedCells_0 : decode cX8_touchedCells 0 = .ok (.iconst 0, 1) := by decide +kernel
theorem dX8_touchedCells_1 : decode cX8_touchedCells 1 = .ok (.istore_n 1, 1) := by decide +kernel
theorem dX8_touchedCells_2 : decode cX8_touchedCells 2 = .ok (.iconst 0, 1) := by decide +kernel
theorem dX8_touchedCells_3 : decode cX8_touchedCells 3 = .ok (.istore_n 2, 1) := by decide +kernel
theorem dX8_touchedCells_4 : decode cX8_touchedCells 4 = .ok (.iload_n 2, 1) := by decide +kernel
theorem dX8_touchedCells_5 : decode cX8_touchedCells 5 = .ok (.aload_n 0, 1) := by decide +kernel
theorem dX8_touchedCells_6 : decode cX8_touchedCells 6 = .ok (.getfield 29, 3) := by decide +kernel
theorem dX8_touchedCells_9 : decode cX8_touchedCells 9 = .ok (.arraylength, 1) := by decide +kernel
theorem dX8_touchedCells_10 : decode cX8_touchedCells 10 = .ok (.if_icmp .ge 21, 3) := by decide +kernel
theorem dX8_touchedCells_13 : decode cX8_touchedCells 13 = .ok (.aload_n 0, 1) := by decide +kernel
theorem dX8_touchedCells_14 : decode cX8_touchedCells 14 = .ok (.getfield 29, 3) := by decide +kernel
theorem dX8_touchedCells_17 : decode cX8_touchedCells 17 = .ok (.iload_n 2, 1) := by decide +kernel
theorem dX8_touchedCells_18 : decode cX8_touchedCells 18 = .ok (.baload, 1) := by decide +kernel
theorem dX8_touchedCells_19 : decode cX8_touchedCells 19 = .ok (.ifCond .eq 6, 3) := by decide +kernel
theorem dX8_touchedCells_22 : decode cX8_touchedCells 22 = .ok (.iinc 1 1, 3) := by decide +kernel
theorem dX8_touchedCells_25 : decode cX8_touchedCells 25 = .ok (.iinc 2 1, 3) := by decide +kernel
theorem dX8_touchedCells_28 : decode cX8_touchedCells 28 = .ok (.goto (-24), 3) := by decide +kernel
theorem dX8_touchedCells_31 : decode cX8_touchedCells 31 = .ok (.iload_n 1, 1) := by decide +kernel
theorem dX8_touchedCells_32 : decode cX8_touchedCells 32 = .ok (.ireturn, 1) := by decide +kernel
theorem dX8_firstTouched_0 : decode cX8_firstTouched 0 = .ok (.iconst 0, 1) := by decide +kernel
theorem dX8_firstTouched_1 : decode cX8_firstTouched 1 = .ok (.istore_n 1, 1) := by decide +kernel
theorem dX8_firstTouched_2 : decode cX8_firstTouched 2 = .ok (.iload_n 1, 1) := by decide +kernel
theorem dX8_firstTouched_3 : decode cX8_firstTouched 3 = .ok (.aload_n 0, 1) := by decide +kernel
theorem dX8_firstTouched_4 : decode cX8_firstTouched 4 = .ok (.getfield 29, 3) := by decide +kernel
theorem dX8_firstTouched_7 : decode cX8_firstTouched 7 = .ok (.arraylength, 1) := by decide +kernel
theorem dX8_firstTouched_8 : decode cX8_firstTouched 8 = .ok (.if_icmp .ge 20, 3) := by decide +kernel
theorem dX8_firstTouched_11 : decode cX8_firstTouched 11 = .ok (.aload_n 0, 1) := by decide +kernel
theorem dX8_firstTouched_12 : decode cX8_firstTouched 12 = .ok (.getfield 29, 3) := by decide +kernel
theorem dX8_firstTouched_15 : decode cX8_firstTouched 15 = .ok (.iload_n 1, 1) := by decide +kernel
theorem dX8_firstTouched_16 : decode cX8_firstTouched 16 = .ok (.baload, 1) := by decide +kernel
theorem dX8_firstTouched_17 : decode cX8_firstTouched 17 = .ok (.ifCond .eq 5, 3) := by decide +kernel
theorem dX8_firstTouched_20 : decode cX8_firstTouched 20 = .ok (.iload_n 1, 1) := by decide +kernel
theorem dX8_firstTouched_21 : decode cX8_firstTouched 21 = .ok (.ireturn, 1) := by decide +kernel
theorem dX8_firstTouched_22 : decode cX8_firstTouched 22 = .ok (.iinc 1 1, 3) := by decide +kernel
theorem dX8_firstTouched_25 : decode cX8_firstTouched 25 = .ok (.goto (-23), 3) := by decide +kernel
theorem dX8_firstTouched_28 : decode cX8_firstTouched 28 = .ok (.bipush (-5), 2) := by decide +kernel
theorem dX8_firstTouched_30 : decode cX8_firstTouched 30 = .ok (.ireturn, 1) := by decide +kernel
theorem dX8_admits_0 : decode cX8_admits 0 = .ok (.aload_n 0, 1) := by decide +kernel
theorem dX8_admits_1 : decode cX8_admits 1 = .ok (.getfield 15, 3) := by decide +kernel
theorem dX8_admits_4 : decode cX8_admits 4 = .ok (.bipush 8, 2) := by decide +kernel
theorem dX8_admits_6 : decode cX8_admits 6 = .ok (.if_icmp .ne 5, 3) := by decide +kernel
theorem dX8_admits_9 : decode cX8_admits 9 = .ok (.iconst 1, 1) := by decide +kernel
theorem dX8_admits_10 : decode cX8_admits 10 = .ok (.ireturn, 1) := by decide +kernel
theorem dX8_admits_11 : decode cX8_admits 11 = .ok (.aload_n 0, 1) := by decide +kernel
theorem dX8_admits_12 : decode cX8_admits 12 = .ok (.getfield 15, 3) := by decide +kernel
theorem dX8_admits_15 : decode cX8_admits 15 = .ok (.bipush 9, 2) := by decide +kernel
theorem dX8_admits_17 : decode cX8_admits 17 = .ok (.if_icmp .ne 21, 3) := by decide +kernel
theorem dX8_admits_20 : decode cX8_admits 20 = .ok (.iload_n 1, 1) := by decide +kernel
theorem dX8_admits_21 : decode cX8_admits 21 = .ok (.bipush 9, 2) := by decide +kernel
theorem dX8_admits_23 : decode cX8_admits 23 = .ok (.if_icmp .eq 9, 3) := by decide +kernel
theorem dX8_admits_26 : decode cX8_admits 26 = .ok (.iload_n 1, 1) := by decide +kernel
theorem dX8_admits_27 : decode cX8_admits 27 = .ok (.bipush 8, 2) := by decide +kernel
theorem dX8_admits_29 : decode cX8_admits 29 = .ok (.if_icmp .ne 7, 3) := by decide +kernel
theorem dX8_admits_32 : decode cX8_admits 32 = .ok (.iconst 1, 1) := by decide +kernel
theorem dX8_admits_33 : decode cX8_admits 33 = .ok (.goto 4, 3) := by decide +kernel
theorem dX8_admits_36 : decode cX8_admits 36 = .ok (.iconst 0, 1) := by decide +kernel
theorem dX8_admits_37 : decode cX8_admits 37 = .ok (.ireturn, 1) := by decide +kernel
theorem dX8_admits_38 : decode cX8_admits 38 = .ok (.iload_n 1, 1) := by decide +kernel
theorem dX8_admits_39 : decode cX8_admits 39 = .ok (.aload_n 0, 1) := by decide +kernel
theorem dX8_admits_40 : decode cX8_admits 40 = .ok (.getfield 15, 3) := by decide +kernel
theorem dX8_admits_43 : decode cX8_admits 43 = .ok (.invokestatic 37, 3) := by decide +kernel
theorem dX8_admits_46 : decode cX8_admits 46 = .ok (.ireturn, 1) := by decide +kernel
theorem dX8_copied_0 : decode cX8_copied 0 = .ok (.new 16, 3) := by decide +kernel
theorem dX8_copied_3 : decode cX8_copied 3 = .ok (.dup, 1) := by decide +kernel
theorem dX8_copied_4 : decode cX8_copied 4 = .ok (.aload_n 0, 1) := by decide +kernel
theorem dX8_copied_5 : decode cX8_copied 5 = .ok (.getfield 15, 3) := by decide +kernel
theorem dX8_copied_8 : decode cX8_copied 8 = .ok (.aload_n 0, 1) := by decide +kernel
theorem dX8_copied_9 : decode cX8_copied 9 = .ok (.getfield 25, 3) := by decide +kernel
theorem dX8_copied_12 : decode cX8_copied 12 = .ok (.arraylength, 1) := by decide +kernel
theorem dX8_copied_13 : decode cX8_copied 13 = .ok (.invokespecial 43, 3) := by decide +kernel
theorem dX8_copied_16 : decode cX8_copied 16 = .ok (.astore_n 1, 1) := by decide +kernel
theorem dX8_copied_17 : decode cX8_copied 17 = .ok (.iconst 0, 1) := by decide +kernel
theorem dX8_copied_18 : decode cX8_copied 18 = .ok (.istore_n 2, 1) := by decide +kernel
theorem dX8_copied_19 : decode cX8_copied 19 = .ok (.iload_n 2, 1) := by decide +kernel
theorem dX8_copied_20 : decode cX8_copied 20 = .ok (.aload_n 0, 1) := by decide +kernel
theorem dX8_copied_21 : decode cX8_copied 21 = .ok (.getfield 25, 3) := by decide +kernel
theorem dX8_copied_24 : decode cX8_copied 24 = .ok (.arraylength, 1) := by decide +kernel
theorem dX8_copied_25 : decode cX8_copied 25 = .ok (.if_icmp .ge 26, 3) := by decide +kernel
theorem dX8_copied_28 : decode cX8_copied 28 = .ok (.aload_n 1, 1) := by decide +kernel
theorem dX8_copied_29 : decode cX8_copied 29 = .ok (.iload_n 2, 1) := by decide +kernel
theorem dX8_copied_30 : decode cX8_copied 30 = .ok (.aload_n 0, 1) := by decide +kernel
theorem dX8_copied_31 : decode cX8_copied 31 = .ok (.getfield 21, 3) := by decide +kernel
theorem dX8_copied_34 : decode cX8_copied 34 = .ok (.iload_n 2, 1) := by decide +kernel
theorem dX8_copied_35 : decode cX8_copied 35 = .ok (.iaload, 1) := by decide +kernel
theorem dX8_copied_36 : decode cX8_copied 36 = .ok (.aload_n 0, 1) := by decide +kernel
theorem dX8_copied_37 : decode cX8_copied 37 = .ok (.getfield 25, 3) := by decide +kernel
theorem dX8_copied_40 : decode cX8_copied 40 = .ok (.iload_n 2, 1) := by decide +kernel
theorem dX8_copied_41 : decode cX8_copied 41 = .ok (.laload, 1) := by decide +kernel
theorem dX8_copied_42 : decode cX8_copied 42 = .ok (.invokevirtual 46, 3) := by decide +kernel
theorem dX8_copied_45 : decode cX8_copied 45 = .ok (.iinc 2 1, 3) := by decide +kernel
theorem dX8_copied_48 : decode cX8_copied 48 = .ok (.goto (-29), 3) := by decide +kernel
theorem dX8_copied_51 : decode cX8_copied 51 = .ok (.aload_n 1, 1) := by decide +kernel
theorem dX8_copied_52 : decode cX8_copied 52 = .ok (.areturn, 1) := by decide +kernel
theorem dX9_init_0 : decode cX9_init 0 = .ok (.aload_n 0, 1) := by decide +kernel
theorem dX9_init_1 : decode cX9_init 1 = .ok (.invokespecial 3, 3) := by decide +kernel
theorem dX9_init_4 : decode cX9_init 4 = .ok (.aload_n 0, 1) := by decide +kernel
theorem dX9_init_5 : decode cX9_init 5 = .ok (.bipush 120, 2) := by decide +kernel
theorem dX9_init_7 : decode cX9_init 7 = .ok (.newarray .byte, 2) := by decide +kernel
theorem dX9_init_9 : decode cX9_init 9 = .ok (.putfield 9, 3) := by decide +kernel
theorem dX9_init_12 : decode cX9_init 12 = .ok (.aload_n 0, 1) := by decide +kernel
theorem dX9_init_13 : decode cX9_init 13 = .ok (.bipush 20, 2) := by decide +kernel
theorem dX9_init_15 : decode cX9_init 15 = .ok (.anewarray 15, 3) := by decide +kernel
theorem dX9_init_18 : decode cX9_init 18 = .ok (.putfield 17, 3) := by decide +kernel
theorem dX9_init_21 : decode cX9_init 21 = .ok (.aload_n 0, 1) := by decide +kernel
theorem dX9_init_22 : decode cX9_init 22 = .ok (.iconst 0, 1) := by decide +kernel
theorem dX9_init_23 : decode cX9_init 23 = .ok (.putfield 21, 3) := by decide +kernel
theorem dX9_init_26 : decode cX9_init 26 = .ok (.aload_n 0, 1) := by decide +kernel
theorem dX9_init_27 : decode cX9_init 27 = .ok (.iconst 0, 1) := by decide +kernel
theorem dX9_init_28 : decode cX9_init 28 = .ok (.putfield 25, 3) := by decide +kernel
theorem dX9_init_31 : decode cX9_init 31 = .ok (.aload_n 0, 1) := by decide +kernel
theorem dX9_init_32 : decode cX9_init 32 = .ok (.iconst 0, 1) := by decide +kernel
theorem dX9_init_33 : decode cX9_init 33 = .ok (.putfield 28, 3) := by decide +kernel
theorem dX9_init_36 : decode cX9_init 36 = .ok (.return_, 1) := by decide +kernel
theorem dX9_lengthened_0 : decode cX9_lengthened 0 = .ok (.aload_n 0, 1) := by decide +kernel
theorem dX9_lengthened_1 : decode cX9_lengthened 1 = .ok (.getfield 21, 3) := by decide +kernel
theorem dX9_lengthened_4 : decode cX9_lengthened 4 = .ok (.ifCond .lt 15, 3) := by decide +kernel
theorem dX9_lengthened_7 : decode cX9_lengthened 7 = .ok (.aload_n 0, 1) := by decide +kernel
theorem dX9_lengthened_8 : decode cX9_lengthened 8 = .ok (.getfield 21, 3) := by decide +kernel
theorem dX9_lengthened_11 : decode cX9_lengthened 11 = .ok (.aload_n 0, 1) := by decide +kernel
theorem dX9_lengthened_12 : decode cX9_lengthened 12 = .ok (.getfield 9, 3) := by decide +kernel
theorem dX9_lengthened_15 : decode cX9_lengthened 15 = .ok (.arraylength, 1) := by decide +kernel
theorem dX9_lengthened_16 : decode cX9_lengthened 16 = .ok (.if_icmp .lt 6, 3) := by decide +kernel
theorem dX9_lengthened_19 : decode cX9_lengthened 19 = .ok (.bipush (-4), 2) := by decide +kernel
theorem dX9_lengthened_21 : decode cX9_lengthened 21 = .ok (.ireturn, 1) := by decide +kernel
theorem dX9_lengthened_22 : decode cX9_lengthened 22 = .ok (.aload_n 0, 1) := by decide +kernel
theorem dX9_lengthened_23 : decode cX9_lengthened 23 = .ok (.getfield 9, 3) := by decide +kernel
theorem dX9_lengthened_26 : decode cX9_lengthened 26 = .ok (.aload_n 0, 1) := by decide +kernel
theorem dX9_lengthened_27 : decode cX9_lengthened 27 = .ok (.getfield 21, 3) := by decide +kernel
theorem dX9_lengthened_30 : decode cX9_lengthened 30 = .ok (.iload_n 1, 1) := by decide +kernel
theorem dX9_lengthened_31 : decode cX9_lengthened 31 = .ok (.i2b, 1) := by decide +kernel
theorem dX9_lengthened_32 : decode cX9_lengthened 32 = .ok (.bastore, 1) := by decide +kernel
theorem dX9_lengthened_33 : decode cX9_lengthened 33 = .ok (.aload_n 0, 1) := by decide +kernel
theorem dX9_lengthened_34 : decode cX9_lengthened 34 = .ok (.dup, 1) := by decide +kernel
theorem dX9_lengthened_35 : decode cX9_lengthened 35 = .ok (.getfield 21, 3) := by decide +kernel
theorem dX9_lengthened_38 : decode cX9_lengthened 38 = .ok (.iconst 1, 1) := by decide +kernel
theorem dX9_lengthened_39 : decode cX9_lengthened 39 = .ok (.iadd, 1) := by decide +kernel
theorem dX9_lengthened_40 : decode cX9_lengthened 40 = .ok (.putfield 21, 3) := by decide +kernel
theorem dX9_lengthened_43 : decode cX9_lengthened 43 = .ok (.aload_n 0, 1) := by decide +kernel
theorem dX9_lengthened_44 : decode cX9_lengthened 44 = .ok (.getfield 21, 3) := by decide +kernel
theorem dX9_lengthened_47 : decode cX9_lengthened 47 = .ok (.ireturn, 1) := by decide +kernel
theorem dX9_lineAt_0 : decode cX9_lineAt 0 = .ok (.iload_n 1, 1) := by decide +kernel
theorem dX9_lineAt_1 : decode cX9_lineAt 1 = .ok (.ifCond .lt 21, 3) := by decide +kernel
theorem dX9_lineAt_4 : decode cX9_lineAt 4 = .ok (.iload_n 1, 1) := by decide +kernel
theorem dX9_lineAt_5 : decode cX9_lineAt 5 = .ok (.aload_n 0, 1) := by decide +kernel
theorem dX9_lineAt_6 : decode cX9_lineAt 6 = .ok (.getfield 17, 3) := by decide +kernel
theorem dX9_lineAt_9 : decode cX9_lineAt 9 = .ok (.arraylength, 1) := by decide +kernel
theorem dX9_lineAt_10 : decode cX9_lineAt 10 = .ok (.if_icmp .ge 12, 3) := by decide +kernel
theorem dX9_lineAt_13 : decode cX9_lineAt 13 = .ok (.aload_n 0, 1) := by decide +kernel
theorem dX9_lineAt_14 : decode cX9_lineAt 14 = .ok (.getfield 17, 3) := by decide +kernel
theorem dX9_lineAt_17 : decode cX9_lineAt 17 = .ok (.iload_n 1, 1) := by decide +kernel
theorem dX9_lineAt_18 : decode cX9_lineAt 18 = .ok (.aaload, 1) := by decide +kernel
theorem dX9_lineAt_19 : decode cX9_lineAt 19 = .ok (.goto 4, 3) := by decide +kernel
theorem dX9_lineAt_22 : decode cX9_lineAt 22 = .ok (.aconst_null, 1) := by decide +kernel
theorem dX9_lineAt_23 : decode cX9_lineAt 23 = .ok (.areturn, 1) := by decide +kernel
theorem dX9_isText_0 : decode cX9_isText 0 = .ok (.aload_n 0, 1) := by decide +kernel
theorem dX9_isText_1 : decode cX9_isText 1 = .ok (.iconst 0, 1) := by decide +kernel
theorem dX9_isText_2 : decode cX9_isText 2 = .ok (.putfield 28, 3) := by decide +kernel
theorem dX9_isText_5 : decode cX9_isText 5 = .ok (.aload_n 0, 1) := by decide +kernel
theorem dX9_isText_6 : decode cX9_isText 6 = .ok (.iconst 0, 1) := by decide +kernel
theorem dX9_isText_7 : decode cX9_isText 7 = .ok (.putfield 25, 3) := by decide +kernel
theorem dX9_isText_10 : decode cX9_isText 10 = .ok (.iconst 0, 1) := by decide +kernel
theorem dX9_isText_11 : decode cX9_isText 11 = .ok (.istore_n 1, 1) := by decide +kernel
theorem dX9_isText_12 : decode cX9_isText 12 = .ok (.iload_n 1, 1) := by decide +kernel
theorem dX9_isText_13 : decode cX9_isText 13 = .ok (.aload_n 0, 1) := by decide +kernel
theorem dX9_isText_14 : decode cX9_isText 14 = .ok (.getfield 17, 3) := by decide +kernel
theorem dX9_isText_17 : decode cX9_isText 17 = .ok (.arraylength, 1) := by decide +kernel
theorem dX9_isText_18 : decode cX9_isText 18 = .ok (.if_icmp .ge 56, 3) := by decide +kernel
theorem dX9_isText_21 : decode cX9_isText 21 = .ok (.new 15, 3) := by decide +kernel
theorem dX9_isText_24 : decode cX9_isText 24 = .ok (.dup, 1) := by decide +kernel
theorem dX9_isText_25 : decode cX9_isText 25 = .ok (.invokespecial 31, 3) := by decide +kernel
theorem dX9_isText_28 : decode cX9_isText 28 = .ok (.astore_n 2, 1) := by decide +kernel
theorem dX9_isText_29 : decode cX9_isText 29 = .ok (.aload_n 0, 1) := by decide +kernel
theorem dX9_isText_30 : decode cX9_isText 30 = .ok (.aload_n 2, 1) := by decide +kernel
theorem dX9_isText_31 : decode cX9_isText 31 = .ok (.invokevirtual 32, 3) := by decide +kernel
theorem dX9_isText_34 : decode cX9_isText 34 = .ok (.ifCond .ne 5, 3) := by decide +kernel
theorem dX9_isText_37 : decode cX9_isText 37 = .ok (.iconst 0, 1) := by decide +kernel
theorem dX9_isText_38 : decode cX9_isText 38 = .ok (.ireturn, 1) := by decide +kernel
theorem dX9_isText_39 : decode cX9_isText 39 = .ok (.aload_n 0, 1) := by decide +kernel
theorem dX9_isText_40 : decode cX9_isText 40 = .ok (.aload_n 2, 1) := by decide +kernel
theorem dX9_isText_41 : decode cX9_isText 41 = .ok (.invokevirtual 36, 3) := by decide +kernel
theorem dX9_isText_44 : decode cX9_isText 44 = .ok (.aload_n 0, 1) := by decide +kernel
theorem dX9_isText_45 : decode cX9_isText 45 = .ok (.getfield 28, 3) := by decide +kernel
theorem dX9_isText_48 : decode cX9_isText 48 = .ok (.aload_n 0, 1) := by decide +kernel
theorem dX9_isText_49 : decode cX9_isText 49 = .ok (.getfield 21, 3) := by decide +kernel
theorem dX9_isText_52 : decode cX9_isText 52 = .ok (.if_icmp .lt 5, 3) := by decide +kernel
theorem dX9_isText_55 : decode cX9_isText 55 = .ok (.iconst 1, 1) := by decide +kernel
theorem dX9_isText_56 : decode cX9_isText 56 = .ok (.ireturn, 1) := by decide +kernel
theorem dX9_isText_57 : decode cX9_isText 57 = .ok (.aload_n 0, 1) := by decide +kernel
theorem dX9_isText_58 : decode cX9_isText 58 = .ok (.bipush 59, 2) := by decide +kernel
theorem dX9_isText_60 : decode cX9_isText 60 = .ok (.invokevirtual 40, 3) := by decide +kernel
theorem dX9_isText_63 : decode cX9_isText 63 = .ok (.ifCond .ne 5, 3) := by decide +kernel
theorem dX9_isText_66 : decode cX9_isText 66 = .ok (.iconst 0, 1) := by decide +kernel
theorem dX9_isText_67 : decode cX9_isText 67 = .ok (.ireturn, 1) := by decide +kernel
theorem dX9_isText_68 : decode cX9_isText 68 = .ok (.iinc 1 1, 3) := by decide +kernel
theorem dX9_isText_71 : decode cX9_isText 71 = .ok (.goto (-59), 3) := by decide +kernel
theorem dX9_isText_74 : decode cX9_isText 74 = .ok (.iconst 0, 1) := by decide +kernel
theorem dX9_isText_75 : decode cX9_isText 75 = .ok (.ireturn, 1) := by decide +kernel
theorem dX9_keepLine_0 : decode cX9_keepLine 0 = .ok (.aload_n 0, 1) := by decide +kernel
theorem dX9_keepLine_1 : decode cX9_keepLine 1 = .ok (.getfield 25, 3) := by decide +kernel
theorem dX9_keepLine_4 : decode cX9_keepLine 4 = .ok (.ifCond .lt 35, 3) := by decide +kernel
theorem dX9_keepLine_7 : decode cX9_keepLine 7 = .ok (.aload_n 0, 1) := by decide +kernel
theorem dX9_keepLine_8 : decode cX9_keepLine 8 = .ok (.getfield 25, 3) := by decide +kernel
theorem dX9_keepLine_11 : decode cX9_keepLine 11 = .ok (.aload_n 0, 1) := by decide +kernel
theorem dX9_keepLine_12 : decode cX9_keepLine 12 = .ok (.getfield 17, 3) := by decide +kernel
theorem dX9_keepLine_15 : decode cX9_keepLine 15 = .ok (.arraylength, 1) := by decide +kernel
theorem dX9_keepLine_16 : decode cX9_keepLine 16 = .ok (.if_icmp .ge 23, 3) := by decide +kernel
theorem dX9_keepLine_19 : decode cX9_keepLine 19 = .ok (.aload_n 0, 1) := by decide +kernel
theorem dX9_keepLine_20 : decode cX9_keepLine 20 = .ok (.getfield 17, 3) := by decide +kernel
theorem dX9_keepLine_23 : decode cX9_keepLine 23 = .ok (.aload_n 0, 1) := by decide +kernel
theorem dX9_keepLine_24 : decode cX9_keepLine 24 = .ok (.getfield 25, 3) := by decide +kernel
theorem dX9_keepLine_27 : decode cX9_keepLine 27 = .ok (.aload_n 1, 1) := by decide +kernel
theorem dX9_keepLine_28 : decode cX9_keepLine 28 = .ok (.aastore, 1) := by decide +kernel
theorem dX9_keepLine_29 : decode cX9_keepLine 29 = .ok (.aload_n 0, 1) := by decide +kernel
theorem dX9_keepLine_30 : decode cX9_keepLine 30 = .ok (.dup, 1) := by decide +kernel
theorem dX9_keepLine_31 : decode cX9_keepLine 31 = .ok (.getfield 25, 3) := by decide +kernel
theorem dX9_keepLine_34 : decode cX9_keepLine 34 = .ok (.iconst 1, 1) := by decide +kernel
theorem dX9_keepLine_35 : decode cX9_keepLine 35 = .ok (.iadd, 1) := by decide +kernel
theorem dX9_keepLine_36 : decode cX9_keepLine 36 = .ok (.putfield 25, 3) := by decide +kernel
theorem dX9_keepLine_39 : decode cX9_keepLine 39 = .ok (.return_, 1) := by decide +kernel
theorem dX9_isLine_0 : decode cX9_isLine 0 = .ok (.aload_n 1, 1) := by decide +kernel
theorem dX9_isLine_1 : decode cX9_isLine 1 = .ok (.aload_n 0, 1) := by decide +kernel
theorem dX9_isLine_2 : decode cX9_isLine 2 = .ok (.bipush 9, 2) := by decide +kernel
theorem dX9_isLine_4 : decode cX9_isLine 4 = .ok (.invokevirtual 44, 3) := by decide +kernel
theorem dX9_isLine_7 : decode cX9_isLine 7 = .ok (.putfield 48, 3) := by decide +kernel
theorem dX9_isLine_10 : decode cX9_isLine 10 = .ok (.aload_n 1, 1) := by decide +kernel
theorem dX9_isLine_11 : decode cX9_isLine 11 = .ok (.getfield 48, 3) := by decide +kernel
theorem dX9_isLine_14 : decode cX9_isLine 14 = .ok (.iconst (-1), 1) := by decide +kernel
theorem dX9_isLine_15 : decode cX9_isLine 15 = .ok (.if_icmp .eq 12, 3) := by decide +kernel
theorem dX9_isLine_18 : decode cX9_isLine 18 = .ok (.aload_n 0, 1) := by decide +kernel
theorem dX9_isLine_19 : decode cX9_isLine 19 = .ok (.bipush 46, 2) := by decide +kernel
theorem dX9_isLine_21 : decode cX9_isLine 21 = .ok (.invokevirtual 40, 3) := by decide +kernel
theorem dX9_isLine_24 : decode cX9_isLine 24 = .ok (.ifCond .ne 5, 3) := by decide +kernel
theorem dX9_isLine_27 : decode cX9_isLine 27 = .ok (.iconst 0, 1) := by decide +kernel
theorem dX9_isLine_28 : decode cX9_isLine 28 = .ok (.ireturn, 1) := by decide +kernel
theorem dX9_isLine_29 : decode cX9_isLine 29 = .ok (.aload_n 1, 1) := by decide +kernel
theorem dX9_isLine_30 : decode cX9_isLine 30 = .ok (.aload_n 0, 1) := by decide +kernel
theorem dX9_isLine_31 : decode cX9_isLine 31 = .ok (.invokevirtual 51, 3) := by decide +kernel
theorem dX9_isLine_34 : decode cX9_isLine 34 = .ok (.putfield 55, 3) := by decide +kernel
theorem dX9_isLine_37 : decode cX9_isLine 37 = .ok (.aload_n 1, 1) := by decide +kernel
theorem dX9_isLine_38 : decode cX9_isLine 38 = .ok (.getfield 55, 3) := by decide +kernel
theorem dX9_isLine_41 : decode cX9_isLine 41 = .ok (.iconst (-1), 1) := by decide +kernel
theorem dX9_isLine_42 : decode cX9_isLine 42 = .ok (.if_icmp .ne 5, 3) := by decide +kernel
theorem dX9_isLine_45 : decode cX9_isLine 45 = .ok (.iconst 0, 1) := by decide +kernel
theorem dX9_isLine_46 : decode cX9_isLine 46 = .ok (.ireturn, 1) := by decide +kernel
theorem dX9_isLine_47 : decode cX9_isLine 47 = .ok (.aload_n 0, 1) := by decide +kernel
theorem dX9_isLine_48 : decode cX9_isLine 48 = .ok (.bipush 61, 2) := by decide +kernel
theorem dX9_isLine_50 : decode cX9_isLine 50 = .ok (.invokevirtual 40, 3) := by decide +kernel
theorem dX9_isLine_53 : decode cX9_isLine 53 = .ok (.ifCond .eq 14, 3) := by decide +kernel
theorem dX9_isLine_56 : decode cX9_isLine 56 = .ok (.aload_n 1, 1) := by decide +kernel
theorem dX9_isLine_57 : decode cX9_isLine 57 = .ok (.iconst 1, 1) := by decide +kernel
theorem dX9_isLine_58 : decode cX9_isLine 58 = .ok (.putfield 58, 3) := by decide +kernel
theorem dX9_isLine_61 : decode cX9_isLine 61 = .ok (.aload_n 0, 1) := by decide +kernel
theorem dX9_isLine_62 : decode cX9_isLine 62 = .ok (.aload_n 1, 1) := by decide +kernel
theorem dX9_isLine_63 : decode cX9_isLine 63 = .ok (.invokevirtual 62, 3) := by decide +kernel
theorem dX9_isLine_66 : decode cX9_isLine 66 = .ok (.ireturn, 1) := by decide +kernel
theorem dX9_isLine_67 : decode cX9_isLine 67 = .ok (.aload_n 0, 1) := by decide +kernel
theorem dX9_isLine_68 : decode cX9_isLine 68 = .ok (.bipush 60, 2) := by decide +kernel
theorem dX9_isLine_70 : decode cX9_isLine 70 = .ok (.invokevirtual 40, 3) := by decide +kernel
theorem dX9_isLine_73 : decode cX9_isLine 73 = .ok (.ifCond .eq 15, 3) := by decide +kernel
theorem dX9_isLine_76 : decode cX9_isLine 76 = .ok (.aload_n 0, 1) := by decide +kernel
theorem dX9_isLine_77 : decode cX9_isLine 77 = .ok (.aload_n 1, 1) := by decide +kernel
theorem dX9_isLine_78 : decode cX9_isLine 78 = .ok (.invokevirtual 65, 3) := by decide +kernel
theorem dX9_isLine_81 : decode cX9_isLine 81 = .ok (.ifCond .eq 7, 3) := by decide +kernel
theorem dX9_isLine_84 : decode cX9_isLine 84 = .ok (.iconst 1, 1) := by decide +kernel
theorem dX9_isLine_85 : decode cX9_isLine 85 = .ok (.goto 4, 3) := by decide +kernel
theorem dX9_isLine_88 : decode cX9_isLine 88 = .ok (.iconst 0, 1) := by decide +kernel
theorem dX9_isLine_89 : decode cX9_isLine 89 = .ok (.ireturn, 1) := by decide +kernel
theorem dX9_isSource_0 : decode cX9_isSource 0 = .ok (.aload_n 1, 1) := by decide +kernel
theorem dX9_isSource_1 : decode cX9_isSource 1 = .ok (.aload_n 0, 1) := by decide +kernel
theorem dX9_isSource_2 : decode cX9_isSource 2 = .ok (.bipush 9, 2) := by decide +kernel
theorem dX9_isSource_4 : decode cX9_isSource 4 = .ok (.invokevirtual 44, 3) := by decide +kernel
theorem dX9_isSource_7 : decode cX9_isSource 7 = .ok (.putfield 68, 3) := by decide +kernel
theorem dX9_isSource_10 : decode cX9_isSource 10 = .ok (.aload_n 1, 1) := by decide +kernel
theorem dX9_isSource_11 : decode cX9_isSource 11 = .ok (.getfield 68, 3) := by decide +kernel
theorem dX9_isSource_14 : decode cX9_isSource 14 = .ok (.iconst (-1), 1) := by decide +kernel
theorem dX9_isSource_15 : decode cX9_isSource 15 = .ok (.if_icmp .eq 12, 3) := by decide +kernel
theorem dX9_isSource_18 : decode cX9_isSource 18 = .ok (.aload_n 0, 1) := by decide +kernel
theorem dX9_isSource_19 : decode cX9_isSource 19 = .ok (.bipush 46, 2) := by decide +kernel
theorem dX9_isSource_21 : decode cX9_isSource 21 = .ok (.invokevirtual 40, 3) := by decide +kernel
theorem dX9_isSource_24 : decode cX9_isSource 24 = .ok (.ifCond .ne 5, 3) := by decide +kernel
theorem dX9_isSource_27 : decode cX9_isSource 27 = .ok (.iconst 0, 1) := by decide +kernel
theorem dX9_isSource_28 : decode cX9_isSource 28 = .ok (.ireturn, 1) := by decide +kernel
theorem dX9_isSource_29 : decode cX9_isSource 29 = .ok (.aload_n 1, 1) := by decide +kernel
theorem dX9_isSource_30 : decode cX9_isSource 30 = .ok (.aload_n 0, 1) := by decide +kernel
theorem dX9_isSource_31 : decode cX9_isSource 31 = .ok (.invokevirtual 51, 3) := by decide +kernel
theorem dX9_isSource_34 : decode cX9_isSource 34 = .ok (.putfield 71, 3) := by decide +kernel
theorem dX9_isSource_37 : decode cX9_isSource 37 = .ok (.aload_n 1, 1) := by decide +kernel
theorem dX9_isSource_38 : decode cX9_isSource 38 = .ok (.getfield 71, 3) := by decide +kernel
theorem dX9_isSource_41 : decode cX9_isSource 41 = .ok (.iconst (-1), 1) := by decide +kernel
theorem dX9_isSource_42 : decode cX9_isSource 42 = .ok (.if_icmp .eq 12, 3) := by decide +kernel
theorem dX9_isSource_45 : decode cX9_isSource 45 = .ok (.aload_n 0, 1) := by decide +kernel
theorem dX9_isSource_46 : decode cX9_isSource 46 = .ok (.bipush 58, 2) := by decide +kernel
theorem dX9_isSource_48 : decode cX9_isSource 48 = .ok (.invokevirtual 40, 3) := by decide +kernel
theorem dX9_isSource_51 : decode cX9_isSource 51 = .ok (.ifCond .ne 5, 3) := by decide +kernel
theorem dX9_isSource_54 : decode cX9_isSource 54 = .ok (.iconst 0, 1) := by decide +kernel
theorem dX9_isSource_55 : decode cX9_isSource 55 = .ok (.ireturn, 1) := by decide +kernel
theorem dX9_isSource_56 : decode cX9_isSource 56 = .ok (.aload_n 1, 1) := by decide +kernel
theorem dX9_isSource_57 : decode cX9_isSource 57 = .ok (.aload_n 0, 1) := by decide +kernel
theorem dX9_isSource_58 : decode cX9_isSource 58 = .ok (.bipush 8, 2) := by decide +kernel
theorem dX9_isSource_60 : decode cX9_isSource 60 = .ok (.invokevirtual 44, 3) := by decide +kernel
theorem dX9_isSource_63 : decode cX9_isSource 63 = .ok (.putfield 74, 3) := by decide +kernel
theorem dX9_isSource_66 : decode cX9_isSource 66 = .ok (.aload_n 1, 1) := by decide +kernel
theorem dX9_isSource_67 : decode cX9_isSource 67 = .ok (.getfield 74, 3) := by decide +kernel
theorem dX9_isSource_70 : decode cX9_isSource 70 = .ok (.iconst (-1), 1) := by decide +kernel
theorem dX9_isSource_71 : decode cX9_isSource 71 = .ok (.if_icmp .eq 7, 3) := by decide +kernel
theorem dX9_isSource_74 : decode cX9_isSource 74 = .ok (.iconst 1, 1) := by decide +kernel
theorem dX9_isSource_75 : decode cX9_isSource 75 = .ok (.goto 4, 3) := by decide +kernel
theorem dX9_isSource_78 : decode cX9_isSource 78 = .ok (.iconst 0, 1) := by decide +kernel
theorem dX9_isSource_79 : decode cX9_isSource 79 = .ok (.ireturn, 1) := by decide +kernel
theorem dX9_isNumber_0 : decode cX9_isNumber 0 = .ok (.aload_n 1, 1) := by decide +kernel
theorem dX9_isNumber_1 : decode cX9_isNumber 1 = .ok (.aload_n 0, 1) := by decide +kernel
theorem dX9_isNumber_2 : decode cX9_isNumber 2 = .ok (.bipush 9, 2) := by decide +kernel
theorem dX9_isNumber_4 : decode cX9_isNumber 4 = .ok (.invokevirtual 44, 3) := by decide +kernel
theorem dX9_isNumber_7 : decode cX9_isNumber 7 = .ok (.putfield 77, 3) := by decide +kernel
theorem dX9_isNumber_10 : decode cX9_isNumber 10 = .ok (.aload_n 1, 1) := by decide +kernel
theorem dX9_isNumber_11 : decode cX9_isNumber 11 = .ok (.getfield 77, 3) := by decide +kernel
theorem dX9_isNumber_14 : decode cX9_isNumber 14 = .ok (.iconst (-1), 1) := by decide +kernel
theorem dX9_isNumber_15 : decode cX9_isNumber 15 = .ok (.if_icmp .eq 12, 3) := by decide +kernel
theorem dX9_isNumber_18 : decode cX9_isNumber 18 = .ok (.aload_n 1, 1) := by decide +kernel
theorem dX9_isNumber_19 : decode cX9_isNumber 19 = .ok (.getfield 77, 3) := by decide +kernel
theorem dX9_isNumber_22 : decode cX9_isNumber 22 = .ok (.bipush 8, 2) := by decide +kernel
theorem dX9_isNumber_24 : decode cX9_isNumber 24 = .ok (.if_icmp .ne 18, 3) := by decide +kernel
theorem dX9_isNumber_27 : decode cX9_isNumber 27 = .ok (.aload_n 1, 1) := by decide +kernel
theorem dX9_isNumber_28 : decode cX9_isNumber 28 = .ok (.getfield 77, 3) := by decide +kernel
theorem dX9_isNumber_31 : decode cX9_isNumber 31 = .ok (.bipush 8, 2) := by decide +kernel
theorem dX9_isNumber_33 : decode cX9_isNumber 33 = .ok (.if_icmp .ne 7, 3) := by decide +kernel
theorem dX9_isNumber_36 : decode cX9_isNumber 36 = .ok (.iconst 1, 1) := by decide +kernel
theorem dX9_isNumber_37 : decode cX9_isNumber 37 = .ok (.goto 4, 3) := by decide +kernel
theorem dX9_isNumber_40 : decode cX9_isNumber 40 = .ok (.iconst 0, 1) := by decide +kernel
theorem dX9_isNumber_41 : decode cX9_isNumber 41 = .ok (.ireturn, 1) := by decide +kernel
theorem dX9_isNumber_42 : decode cX9_isNumber 42 = .ok (.aload_n 0, 1) := by decide +kernel
theorem dX9_isNumber_43 : decode cX9_isNumber 43 = .ok (.bipush 45, 2) := by decide +kernel
theorem dX9_isNumber_45 : decode cX9_isNumber 45 = .ok (.invokevirtual 40, 3) := by decide +kernel
theorem dX9_isNumber_48 : decode cX9_isNumber 48 = .ok (.istore_n 2, 1) := by decide +kernel
theorem dX9_isNumber_49 : decode cX9_isNumber 49 = .ok (.aload_n 0, 1) := by decide +kernel
theorem dX9_isNumber_50 : decode cX9_isNumber 50 = .ok (.bipush 9, 2) := by decide +kernel
theorem dX9_isNumber_52 : decode cX9_isNumber 52 = .ok (.invokevirtual 44, 3) := by decide +kernel
theorem dX9_isNumber_55 : decode cX9_isNumber 55 = .ok (.istore_n 3, 1) := by decide +kernel
theorem dX9_isNumber_56 : decode cX9_isNumber 56 = .ok (.iload_n 3, 1) := by decide +kernel
theorem dX9_isNumber_57 : decode cX9_isNumber 57 = .ok (.iconst (-1), 1) := by decide +kernel
theorem dX9_isNumber_58 : decode cX9_isNumber 58 = .ok (.if_icmp .ne 5, 3) := by decide +kernel
theorem dX9_isNumber_61 : decode cX9_isNumber 61 = .ok (.iconst 0, 1) := by decide +kernel
theorem dX9_isNumber_62 : decode cX9_isNumber 62 = .ok (.ireturn, 1) := by decide +kernel
theorem dX9_isNumber_63 : decode cX9_isNumber 63 = .ok (.iconst 1, 1) := by decide +kernel
theorem dX9_isNumber_64 : decode cX9_isNumber 64 = .ok (.istore 4, 2) := by decide +kernel
theorem dX9_isNumber_66 : decode cX9_isNumber 66 = .ok (.iload 4, 2) := by decide +kernel
theorem dX9_isNumber_68 : decode cX9_isNumber 68 = .ok (.bipush 9, 2) := by decide +kernel
theorem dX9_isNumber_70 : decode cX9_isNumber 70 = .ok (.if_icmp .ge 34, 3) := by decide +kernel
theorem dX9_isNumber_73 : decode cX9_isNumber 73 = .ok (.aload_n 0, 1) := by decide +kernel
theorem dX9_isNumber_74 : decode cX9_isNumber 74 = .ok (.bipush 9, 2) := by decide +kernel
theorem dX9_isNumber_76 : decode cX9_isNumber 76 = .ok (.invokevirtual 44, 3) := by decide +kernel
theorem dX9_isNumber_79 : decode cX9_isNumber 79 = .ok (.istore 5, 2) := by decide +kernel
theorem dX9_isNumber_81 : decode cX9_isNumber 81 = .ok (.iload 5, 2) := by decide +kernel
theorem dX9_isNumber_83 : decode cX9_isNumber 83 = .ok (.iconst (-1), 1) := by decide +kernel
theorem dX9_isNumber_84 : decode cX9_isNumber 84 = .ok (.if_icmp .ne 6, 3) := by decide +kernel
theorem dX9_isNumber_87 : decode cX9_isNumber 87 = .ok (.goto 17, 3) := by decide +kernel
theorem dX9_isNumber_90 : decode cX9_isNumber 90 = .ok (.bipush 10, 2) := by decide +kernel
theorem dX9_isNumber_92 : decode cX9_isNumber 92 = .ok (.iload_n 3, 1) := by decide +kernel
theorem dX9_isNumber_93 : decode cX9_isNumber 93 = .ok (.imul, 1) := by decide +kernel
theorem dX9_isNumber_94 : decode cX9_isNumber 94 = .ok (.iload 5, 2) := by decide +kernel
theorem dX9_isNumber_96 : decode cX9_isNumber 96 = .ok (.iadd, 1) := by decide +kernel
theorem dX9_isNumber_97 : decode cX9_isNumber 97 = .ok (.istore_n 3, 1) := by decide +kernel
theorem dX9_isNumber_98 : decode cX9_isNumber 98 = .ok (.iinc 4 1, 3) := by decide +kernel
theorem dX9_isNumber_101 : decode cX9_isNumber 101 = .ok (.goto (-35), 3) := by decide +kernel
theorem dX9_isNumber_104 : decode cX9_isNumber 104 = .ok (.aload_n 1, 1) := by decide +kernel
theorem dX9_isNumber_105 : decode cX9_isNumber 105 = .ok (.iload_n 2, 1) := by decide +kernel
theorem dX9_isNumber_106 : decode cX9_isNumber 106 = .ok (.ifCond .eq 8, 3) := by decide +kernel
theorem dX9_isNumber_109 : decode cX9_isNumber 109 = .ok (.iload_n 3, 1) := by decide +kernel
theorem dX9_isNumber_110 : decode cX9_isNumber 110 = .ok (.ineg, 1) := by decide +kernel
theorem dX9_isNumber_111 : decode cX9_isNumber 111 = .ok (.goto 4, 3) := by decide +kernel
theorem dX9_isNumber_114 : decode cX9_isNumber 114 = .ok (.iload_n 3, 1) := by decide +kernel
theorem dX9_isNumber_115 : decode cX9_isNumber 115 = .ok (.putfield 80, 3) := by decide +kernel
theorem dX9_isNumber_118 : decode cX9_isNumber 118 = .ok (.iconst 1, 1) := by decide +kernel
theorem dX9_isNumber_119 : decode cX9_isNumber 119 = .ok (.ireturn, 1) := by decide +kernel
theorem dX9_oneOrTwoDigits_0 : decode cX9_oneOrTwoDigits 0 = .ok (.aload_n 0, 1) := by decide +kernel
theorem dX9_oneOrTwoDigits_1 : decode cX9_oneOrTwoDigits 1 = .ok (.bipush 9, 2) := by decide +kernel
theorem dX9_oneOrTwoDigits_3 : decode cX9_oneOrTwoDigits 3 = .ok (.invokevirtual 44, 3) := by decide +kernel
theorem dX9_oneOrTwoDigits_6 : decode cX9_oneOrTwoDigits 6 = .ok (.istore_n 1, 1) := by decide +kernel
theorem dX9_oneOrTwoDigits_7 : decode cX9_oneOrTwoDigits 7 = .ok (.iload_n 1, 1) := by decide +kernel
theorem dX9_oneOrTwoDigits_8 : decode cX9_oneOrTwoDigits 8 = .ok (.iconst (-1), 1) := by decide +kernel
theorem dX9_oneOrTwoDigits_9 : decode cX9_oneOrTwoDigits 9 = .ok (.if_icmp .ne 5, 3) := by decide +kernel
theorem dX9_oneOrTwoDigits_12 : decode cX9_oneOrTwoDigits 12 = .ok (.iconst (-1), 1) := by decide +kernel
theorem dX9_oneOrTwoDigits_13 : decode cX9_oneOrTwoDigits 13 = .ok (.ireturn, 1) := by decide +kernel
theorem dX9_oneOrTwoDigits_14 : decode cX9_oneOrTwoDigits 14 = .ok (.aload_n 0, 1) := by decide +kernel
theorem dX9_oneOrTwoDigits_15 : decode cX9_oneOrTwoDigits 15 = .ok (.bipush 9, 2) := by decide +kernel
theorem dX9_oneOrTwoDigits_17 : decode cX9_oneOrTwoDigits 17 = .ok (.invokevirtual 44, 3) := by decide +kernel
theorem dX9_oneOrTwoDigits_20 : decode cX9_oneOrTwoDigits 20 = .ok (.istore_n 2, 1) := by decide +kernel
theorem dX9_oneOrTwoDigits_21 : decode cX9_oneOrTwoDigits 21 = .ok (.iload_n 2, 1) := by decide +kernel
theorem dX9_oneOrTwoDigits_22 : decode cX9_oneOrTwoDigits 22 = .ok (.iconst (-1), 1) := by decide +kernel
theorem dX9_oneOrTwoDigits_23 : decode cX9_oneOrTwoDigits 23 = .ok (.if_icmp .ne 7, 3) := by decide +kernel
theorem dX9_oneOrTwoDigits_26 : decode cX9_oneOrTwoDigits 26 = .ok (.iload_n 1, 1) := by decide +kernel
theorem dX9_oneOrTwoDigits_27 : decode cX9_oneOrTwoDigits 27 = .ok (.goto 9, 3) := by decide +kernel
theorem dX9_oneOrTwoDigits_30 : decode cX9_oneOrTwoDigits 30 = .ok (.bipush 10, 2) := by decide +kernel
theorem dX9_oneOrTwoDigits_32 : decode cX9_oneOrTwoDigits 32 = .ok (.iload_n 1, 1) := by decide +kernel
theorem dX9_oneOrTwoDigits_33 : decode cX9_oneOrTwoDigits 33 = .ok (.imul, 1) := by decide +kernel
theorem dX9_oneOrTwoDigits_34 : decode cX9_oneOrTwoDigits 34 = .ok (.iload_n 2, 1) := by decide +kernel
theorem dX9_oneOrTwoDigits_35 : decode cX9_oneOrTwoDigits 35 = .ok (.iadd, 1) := by decide +kernel
theorem dX9_oneOrTwoDigits_36 : decode cX9_oneOrTwoDigits 36 = .ok (.ireturn, 1) := by decide +kernel
theorem dX9_digit_0 : decode cX9_digit 0 = .ok (.aload_n 0, 1) := by decide +kernel
theorem dX9_digit_1 : decode cX9_digit 1 = .ok (.invokevirtual 83, 3) := by decide +kernel
theorem dX9_digit_4 : decode cX9_digit 4 = .ok (.bipush 48, 2) := by decide +kernel
theorem dX9_digit_6 : decode cX9_digit 6 = .ok (.isub, 1) := by decide +kernel
theorem dX9_digit_7 : decode cX9_digit 7 = .ok (.istore_n 2, 1) := by decide +kernel
theorem dX9_digit_8 : decode cX9_digit 8 = .ok (.iload_n 2, 1) := by decide +kernel
theorem dX9_digit_9 : decode cX9_digit 9 = .ok (.ifCond .lt 8, 3) := by decide +kernel
theorem dX9_digit_12 : decode cX9_digit 12 = .ok (.iload_n 2, 1) := by decide +kernel
theorem dX9_digit_13 : decode cX9_digit 13 = .ok (.iload_n 1, 1) := by decide +kernel
theorem dX9_digit_14 : decode cX9_digit 14 = .ok (.if_icmp .le 5, 3) := by decide +kernel
theorem dX9_digit_17 : decode cX9_digit 17 = .ok (.iconst (-1), 1) := by decide +kernel
theorem dX9_digit_18 : decode cX9_digit 18 = .ok (.ireturn, 1) := by decide +kernel
theorem dX9_digit_19 : decode cX9_digit 19 = .ok (.aload_n 0, 1) := by decide +kernel
theorem dX9_digit_20 : decode cX9_digit 20 = .ok (.dup, 1) := by decide +kernel
theorem dX9_digit_21 : decode cX9_digit 21 = .ok (.getfield 28, 3) := by decide +kernel
theorem dX9_digit_24 : decode cX9_digit 24 = .ok (.iconst 1, 1) := by decide +kernel
theorem dX9_digit_25 : decode cX9_digit 25 = .ok (.iadd, 1) := by decide +kernel
theorem dX9_digit_26 : decode cX9_digit 26 = .ok (.putfield 28, 3) := by decide +kernel
theorem dX9_digit_29 : decode cX9_digit 29 = .ok (.iload_n 2, 1) := by decide +kernel
theorem dX9_digit_30 : decode cX9_digit 30 = .ok (.ireturn, 1) := by decide +kernel
theorem dX9_accepts_0 : decode cX9_accepts 0 = .ok (.aload_n 0, 1) := by decide +kernel
theorem dX9_accepts_1 : decode cX9_accepts 1 = .ok (.invokevirtual 83, 3) := by decide +kernel
theorem dX9_accepts_4 : decode cX9_accepts 4 = .ok (.iload_n 1, 1) := by decide +kernel
theorem dX9_accepts_5 : decode cX9_accepts 5 = .ok (.if_icmp .eq 5, 3) := by decide +kernel
theorem dX9_accepts_8 : decode cX9_accepts 8 = .ok (.iconst 0, 1) := by decide +kernel
theorem dX9_accepts_9 : decode cX9_accepts 9 = .ok (.ireturn, 1) := by decide +kernel
theorem dX9_accepts_10 : decode cX9_accepts 10 = .ok (.aload_n 0, 1) := by decide +kernel
theorem dX9_accepts_11 : decode cX9_accepts 11 = .ok (.dup, 1) := by decide +kernel
theorem dX9_accepts_12 : decode cX9_accepts 12 = .ok (.getfield 28, 3) := by decide +kernel
theorem dX9_accepts_15 : decode cX9_accepts 15 = .ok (.iconst 1, 1) := by decide +kernel
theorem dX9_accepts_16 : decode cX9_accepts 16 = .ok (.iadd, 1) := by decide +kernel
theorem dX9_accepts_17 : decode cX9_accepts 17 = .ok (.putfield 28, 3) := by decide +kernel
theorem dX9_accepts_20 : decode cX9_accepts 20 = .ok (.iconst 1, 1) := by decide +kernel
theorem dX9_accepts_21 : decode cX9_accepts 21 = .ok (.ireturn, 1) := by decide +kernel
theorem dX9_letterHere_0 : decode cX9_letterHere 0 = .ok (.aload_n 0, 1) := by decide +kernel
theorem dX9_letterHere_1 : decode cX9_letterHere 1 = .ok (.getfield 28, 3) := by decide +kernel
theorem dX9_letterHere_4 : decode cX9_letterHere 4 = .ok (.ifCond .lt 38, 3) := by decide +kernel
theorem dX9_letterHere_7 : decode cX9_letterHere 7 = .ok (.aload_n 0, 1) := by decide +kernel
theorem dX9_letterHere_8 : decode cX9_letterHere 8 = .ok (.getfield 28, 3) := by decide +kernel
theorem dX9_letterHere_11 : decode cX9_letterHere 11 = .ok (.aload_n 0, 1) := by decide +kernel
theorem dX9_letterHere_12 : decode cX9_letterHere 12 = .ok (.getfield 21, 3) := by decide +kernel
theorem dX9_letterHere_15 : decode cX9_letterHere 15 = .ok (.if_icmp .ge 27, 3) := by decide +kernel
theorem dX9_letterHere_18 : decode cX9_letterHere 18 = .ok (.aload_n 0, 1) := by decide +kernel
theorem dX9_letterHere_19 : decode cX9_letterHere 19 = .ok (.getfield 28, 3) := by decide +kernel
theorem dX9_letterHere_22 : decode cX9_letterHere 22 = .ok (.aload_n 0, 1) := by decide +kernel
theorem dX9_letterHere_23 : decode cX9_letterHere 23 = .ok (.getfield 9, 3) := by decide +kernel
theorem dX9_letterHere_26 : decode cX9_letterHere 26 = .ok (.arraylength, 1) := by decide +kernel
theorem dX9_letterHere_27 : decode cX9_letterHere 27 = .ok (.if_icmp .ge 15, 3) := by decide +kernel
theorem dX9_letterHere_30 : decode cX9_letterHere 30 = .ok (.aload_n 0, 1) := by decide +kernel
theorem dX9_letterHere_31 : decode cX9_letterHere 31 = .ok (.getfield 9, 3) := by decide +kernel
theorem dX9_letterHere_34 : decode cX9_letterHere 34 = .ok (.aload_n 0, 1) := by decide +kernel
theorem dX9_letterHere_35 : decode cX9_letterHere 35 = .ok (.getfield 28, 3) := by decide +kernel

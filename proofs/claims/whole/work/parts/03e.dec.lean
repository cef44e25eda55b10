theorem dX12_mayView_80 : decode cX12_mayView 80 = .ok (.iload_n 1, 1) := by decide +kernel
theorem dX12_mayView_81 : decode cX12_mayView 81 = .ok (.i2l, 1) := by decide +kernel
theorem dX12_mayView_82 : decode cX12_mayView 82 = .ok (.ldc2_w 41, 3) := by decide +kernel
theorem dX12_mayView_85 : decode cX12_mayView 85 = .ok (.ldc2_w 35, 3) := by decide +kernel
theorem dX12_mayView_88 : decode cX12_mayView 88 = .ok (.invokestatic 15, 3) := by decide +kernel
theorem dX12_mayView_91 : decode cX12_mayView 91 = .ok (.ireturn, 1) := by decide +kernel
theorem dX12_mayView_92 : decode cX12_mayView 92 = .ok (.iload_n 1, 1) := by decide +kernel
theorem dX12_mayView_93 : decode cX12_mayView 93 = .ok (.i2l, 1) := by decide +kernel
theorem dX12_mayView_94 : decode cX12_mayView 94 = .ok (.ldc2_w 43, 3) := by decide +kernel
theorem dX12_mayView_97 : decode cX12_mayView 97 = .ok (.ldc2_w 35, 3) := by decide +kernel
theorem dX12_mayView_100 : decode cX12_mayView 100 = .ok (.invokestatic 15, 3) := by decide +kernel
theorem dX12_mayView_103 : decode cX12_mayView 103 = .ok (.ireturn, 1) := by decide +kernel
theorem dX12_mayView_104 : decode cX12_mayView 104 = .ok (.iload_n 1, 1) := by decide +kernel
theorem dX12_mayView_105 : decode cX12_mayView 105 = .ok (.bipush 7, 2) := by decide +kernel
theorem dX12_mayView_107 : decode cX12_mayView 107 = .ok (.if_icmp .ne 7, 3) := by decide +kernel
theorem dX12_mayView_110 : decode cX12_mayView 110 = .ok (.iconst 1, 1) := by decide +kernel
theorem dX12_mayView_111 : decode cX12_mayView 111 = .ok (.goto 4, 3) := by decide +kernel
theorem dX12_mayView_114 : decode cX12_mayView 114 = .ok (.iconst 0, 1) := by decide +kernel
theorem dX12_mayView_115 : decode cX12_mayView 115 = .ok (.ireturn, 1) := by decide +kernel
theorem dX12_mayView_116 : decode cX12_mayView 116 = .ok (.iconst 0, 1) := by decide +kernel
theorem dX12_mayView_117 : decode cX12_mayView 117 = .ok (.ireturn, 1) := by decide +kernel
theorem dX12_real_0 : decode cX12_real 0 = .ok (.iload_n 0, 1) := by decide +kernel
theorem dX12_real_1 : decode cX12_real 1 = .ok (.bipush 6, 2) := by decide +kernel
theorem dX12_real_3 : decode cX12_real 3 = .ok (.if_icmp .ne 12, 3) := by decide +kernel
theorem dX12_real_6 : decode cX12_real 6 = .ok (.lload_n 1, 1) := by decide +kernel
theorem dX12_real_7 : decode cX12_real 7 = .ok (.l2i, 1) := by decide +kernel
theorem dX12_real_8 : decode cX12_real 8 = .ok (.invokestatic 45, 3) := by decide +kernel
theorem dX12_real_11 : decode cX12_real 11 = .ok (.f2d, 1) := by decide +kernel
theorem dX12_real_12 : decode cX12_real 12 = .ok (.goto 18, 3) := by decide +kernel
theorem dX12_real_15 : decode cX12_real 15 = .ok (.iload_n 0, 1) := by decide +kernel
theorem dX12_real_16 : decode cX12_real 16 = .ok (.bipush 7, 2) := by decide +kernel
theorem dX12_real_18 : decode cX12_real 18 = .ok (.if_icmp .ne 10, 3) := by decide +kernel
theorem dX12_real_21 : decode cX12_real 21 = .ok (.lload_n 1, 1) := by decide +kernel
theorem dX12_real_22 : decode cX12_real 22 = .ok (.invokestatic 49, 3) := by decide +kernel
theorem dX12_real_25 : decode cX12_real 25 = .ok (.goto 5, 3) := by decide +kernel
theorem dX12_real_28 : decode cX12_real 28 = .ok (.lload_n 1, 1) := by decide +kernel
theorem dX12_real_29 : decode cX12_real 29 = .ok (.l2d, 1) := by decide +kernel
theorem dX12_real_30 : decode cX12_real 30 = .ok (.dreturn, 1) := by decide +kernel
theorem dX12_viewed_0 : decode cX12_viewed 0 = .ok (.iload_n 0, 1) := by decide +kernel
theorem dX12_viewed_1 : decode cX12_viewed 1 = .ok (.iload_n 3, 1) := by decide +kernel
theorem dX12_viewed_2 : decode cX12_viewed 2 = .ok (.if_icmp .eq 9, 3) := by decide +kernel
theorem dX12_viewed_5 : decode cX12_viewed 5 = .ok (.iload_n 3, 1) := by decide +kernel
theorem dX12_viewed_6 : decode cX12_viewed 6 = .ok (.bipush 6, 2) := by decide +kernel
theorem dX12_viewed_8 : decode cX12_viewed 8 = .ok (.if_icmp .ge 5, 3) := by decide +kernel
theorem dX12_viewed_11 : decode cX12_viewed 11 = .ok (.lload_n 1, 1) := by decide +kernel
theorem dX12_viewed_12 : decode cX12_viewed 12 = .ok (.lreturn, 1) := by decide +kernel
theorem dX12_viewed_13 : decode cX12_viewed 13 = .ok (.iload_n 3, 1) := by decide +kernel
theorem dX12_viewed_14 : decode cX12_viewed 14 = .ok (.bipush 6, 2) := by decide +kernel
theorem dX12_viewed_16 : decode cX12_viewed 16 = .ok (.if_icmp .ne 12, 3) := by decide +kernel
theorem dX12_viewed_19 : decode cX12_viewed 19 = .ok (.lload_n 1, 1) := by decide +kernel
theorem dX12_viewed_20 : decode cX12_viewed 20 = .ok (.l2f, 1) := by decide +kernel
theorem dX12_viewed_21 : decode cX12_viewed 21 = .ok (.invokestatic 23, 3) := by decide +kernel
theorem dX12_viewed_24 : decode cX12_viewed 24 = .ok (.i2l, 1) := by decide +kernel
theorem dX12_viewed_25 : decode cX12_viewed 25 = .ok (.goto 11, 3) := by decide +kernel
theorem dX12_viewed_28 : decode cX12_viewed 28 = .ok (.iload_n 0, 1) := by decide +kernel
theorem dX12_viewed_29 : decode cX12_viewed 29 = .ok (.lload_n 1, 1) := by decide +kernel
theorem dX12_viewed_30 : decode cX12_viewed 30 = .ok (.invokestatic 53, 3) := by decide +kernel
theorem dX12_viewed_33 : decode cX12_viewed 33 = .ok (.invokestatic 29, 3) := by decide +kernel
theorem dX12_viewed_36 : decode cX12_viewed 36 = .ok (.lreturn, 1) := by decide +kernel
theorem dX12_amount_0 : decode cX12_amount 0 = .ok (.iload_n 0, 1) := by decide +kernel
theorem dX12_amount_1 : decode cX12_amount 1 = .ok (.bipush 6, 2) := by decide +kernel
theorem dX12_amount_3 : decode cX12_amount 3 = .ok (.if_icmp .ge 7, 3) := by decide +kernel
theorem dX12_amount_6 : decode cX12_amount 6 = .ok (.lload_n 1, 1) := by decide +kernel
theorem dX12_amount_7 : decode cX12_amount 7 = .ok (.goto 23, 3) := by decide +kernel
theorem dX12_amount_10 : decode cX12_amount 10 = .ok (.iload_n 0, 1) := by decide +kernel
theorem dX12_amount_11 : decode cX12_amount 11 = .ok (.bipush 6, 2) := by decide +kernel
theorem dX12_amount_13 : decode cX12_amount 13 = .ok (.if_icmp .ne 12, 3) := by decide +kernel
theorem dX12_amount_16 : decode cX12_amount 16 = .ok (.lload_n 1, 1) := by decide +kernel
theorem dX12_amount_17 : decode cX12_amount 17 = .ok (.l2i, 1) := by decide +kernel
theorem dX12_amount_18 : decode cX12_amount 18 = .ok (.invokestatic 45, 3) := by decide +kernel
theorem dX12_amount_21 : decode cX12_amount 21 = .ok (.f2l, 1) := by decide +kernel
theorem dX12_amount_22 : decode cX12_amount 22 = .ok (.goto 8, 3) := by decide +kernel
theorem dX12_amount_25 : decode cX12_amount 25 = .ok (.lload_n 1, 1) := by decide +kernel
theorem dX12_amount_26 : decode cX12_amount 26 = .ok (.invokestatic 49, 3) := by decide +kernel
theorem dX12_amount_29 : decode cX12_amount 29 = .ok (.d2l, 1) := by decide +kernel
theorem dX12_amount_30 : decode cX12_amount 30 = .ok (.lreturn, 1) := by decide +kernel
theorem dX12_areAlike_0 : decode cX12_areAlike 0 = .ok (.iload_n 0, 1) := by decide +kernel
theorem dX12_areAlike_1 : decode cX12_areAlike 1 = .ok (.ifCond .eq 19, 3) := by decide +kernel
theorem dX12_areAlike_4 : decode cX12_areAlike 4 = .ok (.iload_n 3, 1) := by decide +kernel
theorem dX12_areAlike_5 : decode cX12_areAlike 5 = .ok (.ifCond .eq 15, 3) := by decide +kernel
theorem dX12_areAlike_8 : decode cX12_areAlike 8 = .ok (.iload_n 0, 1) := by decide +kernel
theorem dX12_areAlike_9 : decode cX12_areAlike 9 = .ok (.bipush 7, 2) := by decide +kernel
theorem dX12_areAlike_11 : decode cX12_areAlike 11 = .ok (.if_icmp .gt 9, 3) := by decide +kernel
theorem dX12_areAlike_14 : decode cX12_areAlike 14 = .ok (.iload_n 3, 1) := by decide +kernel
theorem dX12_areAlike_15 : decode cX12_areAlike 15 = .ok (.bipush 7, 2) := by decide +kernel
theorem dX12_areAlike_17 : decode cX12_areAlike 17 = .ok (.if_icmp .le 21, 3) := by decide +kernel
theorem dX12_areAlike_20 : decode cX12_areAlike 20 = .ok (.iload_n 0, 1) := by decide +kernel
theorem dX12_areAlike_21 : decode cX12_areAlike 21 = .ok (.iload_n 3, 1) := by decide +kernel
theorem dX12_areAlike_22 : decode cX12_areAlike 22 = .ok (.if_icmp .ne 14, 3) := by decide +kernel
theorem dX12_areAlike_25 : decode cX12_areAlike 25 = .ok (.lload_n 1, 1) := by decide +kernel
theorem dX12_areAlike_26 : decode cX12_areAlike 26 = .ok (.lload 4, 2) := by decide +kernel
theorem dX12_areAlike_28 : decode cX12_areAlike 28 = .ok (.lcmp, 1) := by decide +kernel
theorem dX12_areAlike_29 : decode cX12_areAlike 29 = .ok (.ifCond .ne 7, 3) := by decide +kernel
theorem dX12_areAlike_32 : decode cX12_areAlike 32 = .ok (.iconst 1, 1) := by decide +kernel
theorem dX12_areAlike_33 : decode cX12_areAlike 33 = .ok (.goto 4, 3) := by decide +kernel
theorem dX12_areAlike_36 : decode cX12_areAlike 36 = .ok (.iconst 0, 1) := by decide +kernel
theorem dX12_areAlike_37 : decode cX12_areAlike 37 = .ok (.ireturn, 1) := by decide +kernel
theorem dX12_areAlike_38 : decode cX12_areAlike 38 = .ok (.iload_n 0, 1) := by decide +kernel
theorem dX12_areAlike_39 : decode cX12_areAlike 39 = .ok (.bipush 6, 2) := by decide +kernel
theorem dX12_areAlike_41 : decode cX12_areAlike 41 = .ok (.if_icmp .ge 24, 3) := by decide +kernel
theorem dX12_areAlike_44 : decode cX12_areAlike 44 = .ok (.iload_n 3, 1) := by decide +kernel
theorem dX12_areAlike_45 : decode cX12_areAlike 45 = .ok (.bipush 6, 2) := by decide +kernel
theorem dX12_areAlike_47 : decode cX12_areAlike 47 = .ok (.if_icmp .ge 18, 3) := by decide +kernel
theorem dX12_areAlike_50 : decode cX12_areAlike 50 = .ok (.lload_n 1, 1) := by decide +kernel
theorem dX12_areAlike_51 : decode cX12_areAlike 51 = .ok (.lload 4, 2) := by decide +kernel
theorem dX12_areAlike_53 : decode cX12_areAlike 53 = .ok (.lcmp, 1) := by decide +kernel
theorem dX12_areAlike_54 : decode cX12_areAlike 54 = .ok (.ifCond .ne 7, 3) := by decide +kernel
theorem dX12_areAlike_57 : decode cX12_areAlike 57 = .ok (.iconst 1, 1) := by decide +kernel
theorem dX12_areAlike_58 : decode cX12_areAlike 58 = .ok (.goto 27, 3) := by decide +kernel
theorem dX12_areAlike_61 : decode cX12_areAlike 61 = .ok (.iconst 0, 1) := by decide +kernel
theorem dX12_areAlike_62 : decode cX12_areAlike 62 = .ok (.goto 23, 3) := by decide +kernel
theorem dX12_areAlike_65 : decode cX12_areAlike 65 = .ok (.iload_n 0, 1) := by decide +kernel
theorem dX12_areAlike_66 : decode cX12_areAlike 66 = .ok (.lload_n 1, 1) := by decide +kernel
theorem dX12_areAlike_67 : decode cX12_areAlike 67 = .ok (.invokestatic 53, 3) := by decide +kernel
theorem dX12_areAlike_70 : decode cX12_areAlike 70 = .ok (.iload_n 3, 1) := by decide +kernel
theorem dX12_areAlike_71 : decode cX12_areAlike 71 = .ok (.lload 4, 2) := by decide +kernel
theorem dX12_areAlike_73 : decode cX12_areAlike 73 = .ok (.invokestatic 53, 3) := by decide +kernel
theorem dX12_areAlike_76 : decode cX12_areAlike 76 = .ok (.dcmp .l, 1) := by decide +kernel
theorem dX12_areAlike_77 : decode cX12_areAlike 77 = .ok (.ifCond .ne 7, 3) := by decide +kernel
theorem dX12_areAlike_80 : decode cX12_areAlike 80 = .ok (.iconst 1, 1) := by decide +kernel
theorem dX12_areAlike_81 : decode cX12_areAlike 81 = .ok (.goto 4, 3) := by decide +kernel
theorem dX12_areAlike_84 : decode cX12_areAlike 84 = .ok (.iconst 0, 1) := by decide +kernel
theorem dX12_areAlike_85 : decode cX12_areAlike 85 = .ok (.ireturn, 1) := by decide +kernel
theorem dX12_init_0 : decode cX12_init 0 = .ok (.aload_n 0, 1) := by decide +kernel
theorem dX12_init_1 : decode cX12_init 1 = .ok (.invokespecial 57, 3) := by decide +kernel
theorem dX12_init_4 : decode cX12_init 4 = .ok (.aload_n 0, 1) := by decide +kernel
theorem dX12_init_5 : decode cX12_init 5 = .ok (.bipush 10, 2) := by decide +kernel
theorem dX12_init_7 : decode cX12_init 7 = .ok (.newarray .int, 2) := by decide +kernel
theorem dX12_init_9 : decode cX12_init 9 = .ok (.putfield 63, 3) := by decide +kernel
theorem dX12_init_12 : decode cX12_init 12 = .ok (.aload_n 0, 1) := by decide +kernel
theorem dX12_init_13 : decode cX12_init 13 = .ok (.bipush 10, 2) := by decide +kernel
theorem dX12_init_15 : decode cX12_init 15 = .ok (.newarray .int, 2) := by decide +kernel
theorem dX12_init_17 : decode cX12_init 17 = .ok (.putfield 67, 3) := by decide +kernel
theorem dX12_init_20 : decode cX12_init 20 = .ok (.aload_n 0, 1) := by decide +kernel
theorem dX12_init_21 : decode cX12_init 21 = .ok (.bipush 10, 2) := by decide +kernel
theorem dX12_init_23 : decode cX12_init 23 = .ok (.newarray .int, 2) := by decide +kernel
theorem dX12_init_25 : decode cX12_init 25 = .ok (.putfield 70, 3) := by decide +kernel
theorem dX12_init_28 : decode cX12_init 28 = .ok (.aload_n 0, 1) := by decide +kernel
theorem dX12_init_29 : decode cX12_init 29 = .ok (.sipush 320, 3) := by decide +kernel
theorem dX12_init_32 : decode cX12_init 32 = .ok (.newarray .int, 2) := by decide +kernel
theorem dX12_init_34 : decode cX12_init 34 = .ok (.putfield 73, 3) := by decide +kernel
theorem dX12_init_37 : decode cX12_init 37 = .ok (.aload_n 0, 1) := by decide +kernel
theorem dX12_init_38 : decode cX12_init 38 = .ok (.sipush 320, 3) := by decide +kernel
theorem dX12_init_41 : decode cX12_init 41 = .ok (.newarray .long, 2) := by decide +kernel
theorem dX12_init_43 : decode cX12_init 43 = .ok (.putfield 76, 3) := by decide +kernel
theorem dX12_init_46 : decode cX12_init 46 = .ok (.aload_n 0, 1) := by decide +kernel
theorem dX12_init_47 : decode cX12_init 47 = .ok (.bipush 10, 2) := by decide +kernel
theorem dX12_init_49 : decode cX12_init 49 = .ok (.newarray .int, 2) := by decide +kernel
theorem dX12_init_51 : decode cX12_init 51 = .ok (.putfield 80, 3) := by decide +kernel
theorem dX12_init_54 : decode cX12_init 54 = .ok (.aload_n 0, 1) := by decide +kernel
theorem dX12_init_55 : decode cX12_init 55 = .ok (.bipush 10, 2) := by decide +kernel
theorem dX12_init_57 : decode cX12_init 57 = .ok (.newarray .int, 2) := by decide +kernel
theorem dX12_init_59 : decode cX12_init 59 = .ok (.putfield 83, 3) := by decide +kernel
theorem dX12_init_62 : decode cX12_init 62 = .ok (.aload_n 0, 1) := by decide +kernel
theorem dX12_init_63 : decode cX12_init 63 = .ok (.iconst 3, 1) := by decide +kernel
theorem dX12_init_64 : decode cX12_init 64 = .ok (.newarray .int, 2) := by decide +kernel
theorem dX12_init_66 : decode cX12_init 66 = .ok (.putfield 86, 3) := by decide +kernel
theorem dX12_init_69 : decode cX12_init 69 = .ok (.aload_n 0, 1) := by decide +kernel
theorem dX12_init_70 : decode cX12_init 70 = .ok (.bipush 30, 2) := by decide +kernel
theorem dX12_init_72 : decode cX12_init 72 = .ok (.newarray .int, 2) := by decide +kernel
theorem dX12_init_74 : decode cX12_init 74 = .ok (.putfield 89, 3) := by decide +kernel
theorem dX12_init_77 : decode cX12_init 77 = .ok (.aload_n 0, 1) := by decide +kernel
theorem dX12_init_78 : decode cX12_init 78 = .ok (.bipush 64, 2) := by decide +kernel
theorem dX12_init_80 : decode cX12_init 80 = .ok (.newarray .int, 2) := by decide +kernel
theorem dX12_init_82 : decode cX12_init 82 = .ok (.putfield 92, 3) := by decide +kernel
theorem dX12_init_85 : decode cX12_init 85 = .ok (.aload_n 0, 1) := by decide +kernel
theorem dX12_init_86 : decode cX12_init 86 = .ok (.bipush 64, 2) := by decide +kernel
theorem dX12_init_88 : decode cX12_init 88 = .ok (.newarray .int, 2) := by decide +kernel
theorem dX12_init_90 : decode cX12_init 90 = .ok (.putfield 95, 3) := by decide +kernel
theorem dX12_init_93 : decode cX12_init 93 = .ok (.aload_n 0, 1) := by decide +kernel
theorem dX12_init_94 : decode cX12_init 94 = .ok (.bipush 64, 2) := by decide +kernel
theorem dX12_init_96 : decode cX12_init 96 = .ok (.newarray .long, 2) := by decide +kernel
theorem dX12_init_98 : decode cX12_init 98 = .ok (.putfield 98, 3) := by decide +kernel
theorem dX12_init_101 : decode cX12_init 101 = .ok (.aload_n 0, 1) := by decide +kernel
theorem dX12_init_102 : decode cX12_init 102 = .ok (.sipush 1536, 3) := by decide +kernel
theorem dX12_init_105 : decode cX12_init 105 = .ok (.newarray .int, 2) := by decide +kernel
theorem dX12_init_107 : decode cX12_init 107 = .ok (.putfield 101, 3) := by decide +kernel
theorem dX12_init_110 : decode cX12_init 110 = .ok (.aload_n 0, 1) := by decide +kernel
theorem dX12_init_111 : decode cX12_init 111 = .ok (.sipush 1536, 3) := by decide +kernel
theorem dX12_init_114 : decode cX12_init 114 = .ok (.newarray .int, 2) := by decide +kernel
theorem dX12_init_116 : decode cX12_init 116 = .ok (.putfield 104, 3) := by decide +kernel
theorem dX12_init_119 : decode cX12_init 119 = .ok (.aload_n 0, 1) := by decide +kernel
theorem dX12_init_120 : decode cX12_init 120 = .ok (.sipush 1536, 3) := by decide +kernel
theorem dX12_init_123 : decode cX12_init 123 = .ok (.newarray .long, 2) := by decide +kernel
theorem dX12_init_125 : decode cX12_init 125 = .ok (.putfield 107, 3) := by decide +kernel
theorem dX12_init_128 : decode cX12_init 128 = .ok (.aload_n 0, 1) := by decide +kernel
theorem dX12_init_129 : decode cX12_init 129 = .ok (.sipush 1536, 3) := by decide +kernel
theorem dX12_init_132 : decode cX12_init 132 = .ok (.newarray .int, 2) := by decide +kernel
theorem dX12_init_134 : decode cX12_init 134 = .ok (.putfield 110, 3) := by decide +kernel
theorem dX12_init_137 : decode cX12_init 137 = .ok (.aload_n 0, 1) := by decide +kernel
theorem dX12_init_138 : decode cX12_init 138 = .ok (.sipush 1536, 3) := by decide +kernel
theorem dX12_init_141 : decode cX12_init 141 = .ok (.newarray .long, 2) := by decide +kernel
theorem dX12_init_143 : decode cX12_init 143 = .ok (.putfield 113, 3) := by decide +kernel
theorem dX12_init_146 : decode cX12_init 146 = .ok (.aload_n 0, 1) := by decide +kernel
theorem dX12_init_147 : decode cX12_init 147 = .ok (.bipush 24, 2) := by decide +kernel
theorem dX12_init_149 : decode cX12_init 149 = .ok (.newarray .int, 2) := by decide +kernel
theorem dX12_init_151 : decode cX12_init 151 = .ok (.putfield 116, 3) := by decide +kernel
theorem dX12_init_154 : decode cX12_init 154 = .ok (.aload_n 0, 1) := by decide +kernel
theorem dX12_init_155 : decode cX12_init 155 = .ok (.iconst 3, 1) := by decide +kernel
theorem dX12_init_156 : decode cX12_init 156 = .ok (.newarray .int, 2) := by decide +kernel
theorem dX12_init_158 : decode cX12_init 158 = .ok (.putfield 119, 3) := by decide +kernel
theorem dX12_init_161 : decode cX12_init 161 = .ok (.aload_n 0, 1) := by decide +kernel
theorem dX12_init_162 : decode cX12_init 162 = .ok (.bipush 32, 2) := by decide +kernel
theorem dX12_init_164 : decode cX12_init 164 = .ok (.newarray .int, 2) := by decide +kernel
theorem dX12_init_166 : decode cX12_init 166 = .ok (.putfield 122, 3) := by decide +kernel
theorem dX12_init_169 : decode cX12_init 169 = .ok (.aload_n 0, 1) := by decide +kernel
theorem dX12_init_170 : decode cX12_init 170 = .ok (.bipush 32, 2) := by decide +kernel
theorem dX12_init_172 : decode cX12_init 172 = .ok (.newarray .long, 2) := by decide +kernel
theorem dX12_init_174 : decode cX12_init 174 = .ok (.putfield 125, 3) := by decide +kernel
theorem dX12_init_177 : decode cX12_init 177 = .ok (.aload_n 0, 1) := by decide +kernel
theorem dX12_init_178 : decode cX12_init 178 = .ok (.sipush 800, 3) := by decide +kernel
theorem dX12_init_181 : decode cX12_init 181 = .ok (.newarray .int, 2) := by decide +kernel
theorem dX12_init_183 : decode cX12_init 183 = .ok (.putfield 128, 3) := by decide +kernel
theorem dX12_init_186 : decode cX12_init 186 = .ok (.aload_n 0, 1) := by decide +kernel
theorem dX12_init_187 : decode cX12_init 187 = .ok (.bipush 20, 2) := by decide +kernel
theorem dX12_init_189 : decode cX12_init 189 = .ok (.newarray .int, 2) := by decide +kernel
theorem dX12_init_191 : decode cX12_init 191 = .ok (.putfield 131, 3) := by decide +kernel
theorem dX12_init_194 : decode cX12_init 194 = .ok (.aload_n 0, 1) := by decide +kernel
theorem dX12_init_195 : decode cX12_init 195 = .ok (.bipush 10, 2) := by decide +kernel
theorem dX12_init_197 : decode cX12_init 197 = .ok (.newarray .int, 2) := by decide +kernel
theorem dX12_init_199 : decode cX12_init 199 = .ok (.dup, 1) := by decide +kernel
theorem dX12_init_200 : decode cX12_init 200 = .ok (.iconst 0, 1) := by decide +kernel
theorem dX12_init_201 : decode cX12_init 201 = .ok (.bipush 122, 2) := by decide +kernel
theorem dX12_init_203 : decode cX12_init 203 = .ok (.iastore, 1) := by decide +kernel
theorem dX12_init_204 : decode cX12_init 204 = .ok (.dup, 1) := by decide +kernel
theorem dX12_init_205 : decode cX12_init 205 = .ok (.iconst 1, 1) := by decide +kernel
theorem dX12_init_206 : decode cX12_init 206 = .ok (.bipush 98, 2) := by decide +kernel
theorem dX12_init_208 : decode cX12_init 208 = .ok (.iastore, 1) := by decide +kernel
theorem dX12_init_209 : decode cX12_init 209 = .ok (.dup, 1) := by decide +kernel
theorem dX12_init_210 : decode cX12_init 210 = .ok (.iconst 2, 1) := by decide +kernel
theorem dX12_init_211 : decode cX12_init 211 = .ok (.bipush 99, 2) := by decide +kernel
theorem dX12_init_213 : decode cX12_init 213 = .ok (.iastore, 1) := by decide +kernel
theorem dX12_init_214 : decode cX12_init 214 = .ok (.dup, 1) := by decide +kernel
theorem dX12_init_215 : decode cX12_init 215 = .ok (.iconst 3, 1) := by decide +kernel
theorem dX12_init_216 : decode cX12_init 216 = .ok (.bipush 115, 2) := by decide +kernel
theorem dX12_init_218 : decode cX12_init 218 = .ok (.iastore, 1) := by decide +kernel
theorem dX12_init_219 : decode cX12_init 219 = .ok (.dup, 1) := by decide +kernel
theorem dX12_init_220 : decode cX12_init 220 = .ok (.iconst 4, 1) := by decide +kernel
theorem dX12_init_221 : decode cX12_init 221 = .ok (.bipush 105, 2) := by decide +kernel
theorem dX12_init_223 : decode cX12_init 223 = .ok (.iastore, 1) := by decide +kernel
theorem dX12_init_224 : decode cX12_init 224 = .ok (.dup, 1) := by decide +kernel
theorem dX12_init_225 : decode cX12_init 225 = .ok (.iconst 5, 1) := by decide +kernel
theorem dX12_init_226 : decode cX12_init 226 = .ok (.bipush 106, 2) := by decide +kernel
theorem dX12_init_228 : decode cX12_init 228 = .ok (.iastore, 1) := by decide +kernel
theorem dX12_init_229 : decode cX12_init 229 = .ok (.dup, 1) := by decide +kernel
theorem dX12_init_230 : decode cX12_init 230 = .ok (.bipush 6, 2) := by decide +kernel
theorem dX12_init_232 : decode cX12_init 232 = .ok (.bipush 102, 2) := by decide +kernel
theorem dX12_init_234 : decode cX12_init 234 = .ok (.iastore, 1) := by decide +kernel
theorem dX12_init_235 : decode cX12_init 235 = .ok (.dup, 1) := by decide +kernel
theorem dX12_init_236 : decode cX12_init 236 = .ok (.bipush 7, 2) := by decide +kernel
theorem dX12_init_238 : decode cX12_init 238 = .ok (.bipush 100, 2) := by decide +kernel
theorem dX12_init_240 : decode cX12_init 240 = .ok (.iastore, 1) := by decide +kernel
theorem dX12_init_241 : decode cX12_init 241 = .ok (.dup, 1) := by decide +kernel
theorem dX12_init_242 : decode cX12_init 242 = .ok (.bipush 8, 2) := by decide +kernel
theorem dX12_init_244 : decode cX12_init 244 = .ok (.bipush 111, 2) := by decide +kernel
theorem dX12_init_246 : decode cX12_init 246 = .ok (.iastore, 1) := by decide +kernel
theorem dX12_init_247 : decode cX12_init 247 = .ok (.dup, 1) := by decide +kernel
theorem dX12_init_248 : decode cX12_init 248 = .ok (.bipush 9, 2) := by decide +kernel
theorem dX12_init_250 : decode cX12_init 250 = .ok (.bipush 108, 2) := by decide +kernel
theorem dX12_init_252 : decode cX12_init 252 = .ok (.iastore, 1) := by decide +kernel
theorem dX12_init_253 : decode cX12_init 253 = .ok (.putfield 134, 3) := by decide +kernel
theorem dX12_init_256 : decode cX12_init 256 = .ok (.aload_n 0, 1) := by decide +kernel
theorem dX12_init_257 : decode cX12_init 257 = .ok (.bipush 120, 2) := by decide +kernel
theorem dX12_init_259 : decode cX12_init 259 = .ok (.newarray .int, 2) := by decide +kernel
theorem dX12_init_261 : decode cX12_init 261 = .ok (.putfield 137, 3) := by decide +kernel
theorem dX12_init_264 : decode cX12_init 264 = .ok (.aload_n 0, 1) := by decide +kernel
theorem dX12_init_265 : decode cX12_init 265 = .ok (.bipush 40, 2) := by decide +kernel
theorem dX12_init_267 : decode cX12_init 267 = .ok (.newarray .int, 2) := by decide +kernel
theorem dX12_init_269 : decode cX12_init 269 = .ok (.putfield 140, 3) := by decide +kernel
theorem dX12_init_272 : decode cX12_init 272 = .ok (.aload_n 0, 1) := by decide +kernel
theorem dX12_init_273 : decode cX12_init 273 = .ok (.bipush 40, 2) := by decide +kernel
theorem dX12_init_275 : decode cX12_init 275 = .ok (.newarray .int, 2) := by decide +kernel
theorem dX12_init_277 : decode cX12_init 277 = .ok (.putfield 143, 3) := by decide +kernel
theorem dX12_init_280 : decode cX12_init 280 = .ok (.aload_n 0, 1) := by decide +kernel
theorem dX12_init_281 : decode cX12_init 281 = .ok (.bipush 40, 2) := by decide +kernel
theorem dX12_init_283 : decode cX12_init 283 = .ok (.newarray .int, 2) := by decide +kernel
theorem dX12_init_285 : decode cX12_init 285 = .ok (.putfield 146, 3) := by decide +kernel
theorem dX12_init_288 : decode cX12_init 288 = .ok (.aload_n 0, 1) := by decide +kernel
theorem dX12_init_289 : decode cX12_init 289 = .ok (.bipush 40, 2) := by decide +kernel
theorem dX12_init_291 : decode cX12_init 291 = .ok (.newarray .int, 2) := by decide +kernel
theorem dX12_init_293 : decode cX12_init 293 = .ok (.putfield 149, 3) := by decide +kernel
theorem dX12_init_296 : decode cX12_init 296 = .ok (.aload_n 0, 1) := by decide +kernel
theorem dX12_init_297 : decode cX12_init 297 = .ok (.bipush 40, 2) := by decide +kernel
theorem dX12_init_299 : decode cX12_init 299 = .ok (.newarray .int, 2) := by decide +kernel
theorem dX12_init_301 : decode cX12_init 301 = .ok (.putfield 152, 3) := by decide +kernel
theorem dX12_init_304 : decode cX12_init 304 = .ok (.aload_n 0, 1) := by decide +kernel
theorem dX12_init_305 : decode cX12_init 305 = .ok (.bipush 40, 2) := by decide +kernel
theorem dX12_init_307 : decode cX12_init 307 = .ok (.newarray .long, 2) := by decide +kernel
theorem dX12_init_309 : decode cX12_init 309 = .ok (.putfield 155, 3) := by decide +kernel
theorem dX12_init_312 : decode cX12_init 312 = .ok (.aload_n 0, 1) := by decide +kernel
theorem dX12_init_313 : decode cX12_init 313 = .ok (.bipush 10, 2) := by decide +kernel
theorem dX12_init_315 : decode cX12_init 315 = .ok (.newarray .int, 2) := by decide +kernel
theorem dX12_init_317 : decode cX12_init 317 = .ok (.putfield 158, 3) := by decide +kernel
theorem dX12_init_320 : decode cX12_init 320 = .ok (.aload_n 0, 1) := by decide +kernel
theorem dX12_init_321 : decode cX12_init 321 = .ok (.bipush 10, 2) := by decide +kernel
theorem dX12_init_323 : decode cX12_init 323 = .ok (.newarray .int, 2) := by decide +kernel
theorem dX12_init_325 : decode cX12_init 325 = .ok (.putfield 161, 3) := by decide +kernel
theorem dX12_init_328 : decode cX12_init 328 = .ok (.aload_n 0, 1) := by decide +kernel
theorem dX12_init_329 : decode cX12_init 329 = .ok (.sipush 320, 3) := by decide +kernel
theorem dX12_init_332 : decode cX12_init 332 = .ok (.newarray .int, 2) := by decide +kernel
theorem dX12_init_334 : decode cX12_init 334 = .ok (.putfield 164, 3) := by decide +kernel
theorem dX12_init_337 : decode cX12_init 337 = .ok (.aload_n 0, 1) := by decide +kernel
theorem dX12_init_338 : decode cX12_init 338 = .ok (.sipush 320, 3) := by decide +kernel
theorem dX12_init_341 : decode cX12_init 341 = .ok (.newarray .long, 2) := by decide +kernel
theorem dX12_init_343 : decode cX12_init 343 = .ok (.putfield 167, 3) := by decide +kernel
theorem dX12_init_346 : decode cX12_init 346 = .ok (.aload_n 0, 1) := by decide +kernel
theorem dX12_init_347 : decode cX12_init 347 = .ok (.bipush 10, 2) := by decide +kernel
theorem dX12_init_349 : decode cX12_init 349 = .ok (.newarray .int, 2) := by decide +kernel
theorem dX12_init_351 : decode cX12_init 351 = .ok (.putfield 170, 3) := by decide +kernel
theorem dX12_init_354 : decode cX12_init 354 = .ok (.aload_n 0, 1) := by decide +kernel
theorem dX12_init_355 : decode cX12_init 355 = .ok (.bipush 10, 2) := by decide +kernel
theorem dX12_init_357 : decode cX12_init 357 = .ok (.newarray .int, 2) := by decide +kernel
theorem dX12_init_359 : decode cX12_init 359 = .ok (.putfield 173, 3) := by decide +kernel
theorem dX12_init_362 : decode cX12_init 362 = .ok (.aload_n 0, 1) := by decide +kernel
theorem dX12_init_363 : decode cX12_init 363 = .ok (.bipush 30, 2) := by decide +kernel
theorem dX12_init_365 : decode cX12_init 365 = .ok (.newarray .int, 2) := by decide +kernel
theorem dX12_init_367 : decode cX12_init 367 = .ok (.putfield 176, 3) := by decide +kernel
theorem dX12_init_370 : decode cX12_init 370 = .ok (.iconst 0, 1) := by decide +kernel
theorem dX12_init_371 : decode cX12_init 371 = .ok (.istore_n 1, 1) := by decide +kernel
theorem dX12_init_372 : decode cX12_init 372 = .ok (.iload_n 1, 1) := by decide +kernel
theorem dX12_init_373 : decode cX12_init 373 = .ok (.bipush 10, 2) := by decide +kernel
theorem dX12_init_375 : decode cX12_init 375 = .ok (.if_icmp .ge 17, 3) := by decide +kernel
theorem dX12_init_378 : decode cX12_init 378 = .ok (.aload_n 0, 1) := by decide +kernel
theorem dX12_init_379 : decode cX12_init 379 = .ok (.getfield 80, 3) := by decide +kernel
theorem dX12_init_382 : decode cX12_init 382 = .ok (.iload_n 1, 1) := by decide +kernel
theorem dX12_init_383 : decode cX12_init 383 = .ok (.bipush (-11), 2) := by decide +kernel
theorem dX12_init_385 : decode cX12_init 385 = .ok (.iastore, 1) := by decide +kernel
theorem dX12_init_386 : decode cX12_init 386 = .ok (.iinc 1 1, 3) := by decide +kernel
theorem dX12_init_389 : decode cX12_init 389 = .ok (.goto (-17), 3) := by decide +kernel
theorem dX12_init_392 : decode cX12_init 392 = .ok (.iconst 0, 1) := by decide +kernel
theorem dX12_init_393 : decode cX12_init 393 = .ok (.istore_n 1, 1) := by decide +kernel
theorem dX12_init_394 : decode cX12_init 394 = .ok (.iload_n 1, 1) := by decide +kernel
theorem dX12_init_395 : decode cX12_init 395 = .ok (.bipush 6, 2) := by decide +kernel
theorem dX12_init_397 : decode cX12_init 397 = .ok (.if_icmp .ge 32, 3) := by decide +kernel
theorem dX12_init_400 : decode cX12_init 400 = .ok (.aload_n 0, 1) := by decide +kernel
theorem dX12_init_401 : decode cX12_init 401 = .ok (.getfield 89, 3) := by decide +kernel
theorem dX12_init_404 : decode cX12_init 404 = .ok (.iconst 5, 1) := by decide +kernel
theorem dX12_init_405 : decode cX12_init 405 = .ok (.iload_n 1, 1) := by decide +kernel
theorem dX12_init_406 : decode cX12_init 406 = .ok (.imul, 1) := by decide +kernel
theorem dX12_init_407 : decode cX12_init 407 = .ok (.iconst 2, 1) := by decide +kernel
theorem dX12_init_408 : decode cX12_init 408 = .ok (.iadd, 1) := by decide +kernel
theorem dX12_init_409 : decode cX12_init 409 = .ok (.iconst 1, 1) := by decide +kernel
theorem dX12_init_410 : decode cX12_init 410 = .ok (.iastore, 1) := by decide +kernel
theorem dX12_init_411 : decode cX12_init 411 = .ok (.aload_n 0, 1) := by decide +kernel
theorem dX12_init_412 : decode cX12_init 412 = .ok (.getfield 89, 3) := by decide +kernel
theorem dX12_init_415 : decode cX12_init 415 = .ok (.iconst 5, 1) := by decide +kernel
theorem dX12_init_416 : decode cX12_init 416 = .ok (.iload_n 1, 1) := by decide +kernel
theorem dX12_init_417 : decode cX12_init 417 = .ok (.imul, 1) := by decide +kernel
theorem dX12_init_418 : decode cX12_init 418 = .ok (.iconst 4, 1) := by decide +kernel
theorem dX12_init_419 : decode cX12_init 419 = .ok (.iadd, 1) := by decide +kernel
theorem dX12_init_420 : decode cX12_init 420 = .ok (.bipush 8, 2) := by decide +kernel
theorem dX12_init_422 : decode cX12_init 422 = .ok (.iastore, 1) := by decide +kernel
theorem dX12_init_423 : decode cX12_init 423 = .ok (.iinc 1 1, 3) := by decide +kernel
theorem dX12_init_426 : decode cX12_init 426 = .ok (.goto (-32), 3) := by decide +kernel
theorem dX12_init_429 : decode cX12_init 429 = .ok (.aload_n 0, 1) := by decide +kernel
theorem dX12_init_430 : decode cX12_init 430 = .ok (.bipush 8, 2) := by decide +kernel
theorem dX12_init_432 : decode cX12_init 432 = .ok (.lconst 0, 1) := by decide +kernel
theorem dX12_init_433 : decode cX12_init 433 = .ok (.invokevirtual 19, 3) := by decide +kernel
theorem dX12_init_436 : decode cX12_init 436 = .ok (.aload_n 0, 1) := by decide +kernel
theorem dX12_init_437 : decode cX12_init 437 = .ok (.bipush 8, 2) := by decide +kernel
theorem dX12_init_439 : decode cX12_init 439 = .ok (.putfield 179, 3) := by decide +kernel
theorem dX12_init_442 : decode cX12_init 442 = .ok (.return_, 1) := by decide +kernel
theorem dX12_isSlot_0 : decode cX12_isSlot 0 = .ok (.iload_n 0, 1) := by decide +kernel
theorem dX12_isSlot_1 : decode cX12_isSlot 1 = .ok (.i2l, 1) := by decide +kernel
theorem dX12_isSlot_2 : decode cX12_isSlot 2 = .ok (.lconst 0, 1) := by decide +kernel
theorem dX12_isSlot_3 : decode cX12_isSlot 3 = .ok (.ldc2_w 13, 3) := by decide +kernel
theorem dX12_isSlot_6 : decode cX12_isSlot 6 = .ok (.invokestatic 15, 3) := by decide +kernel
theorem dX12_isSlot_9 : decode cX12_isSlot 9 = .ok (.ireturn, 1) := by decide +kernel
theorem dX12_isRow_0 : decode cX12_isRow 0 = .ok (.aload_n 0, 1) := by decide +kernel
theorem dX12_isRow_1 : decode cX12_isRow 1 = .ok (.getfield 80, 3) := by decide +kernel
theorem dX12_isRow_4 : decode cX12_isRow 4 = .ok (.iload_n 1, 1) := by decide +kernel
theorem dX12_isRow_5 : decode cX12_isRow 5 = .ok (.iaload, 1) := by decide +kernel
theorem dX12_isRow_6 : decode cX12_isRow 6 = .ok (.ifCond .lt 18, 3) := by decide +kernel
theorem dX12_isRow_9 : decode cX12_isRow 9 = .ok (.aload_n 0, 1) := by decide +kernel
theorem dX12_isRow_10 : decode cX12_isRow 10 = .ok (.getfield 80, 3) := by decide +kernel
theorem dX12_isRow_13 : decode cX12_isRow 13 = .ok (.iload_n 1, 1) := by decide +kernel
theorem dX12_isRow_14 : decode cX12_isRow 14 = .ok (.iaload, 1) := by decide +kernel
theorem dX12_isRow_15 : decode cX12_isRow 15 = .ok (.bipush 10, 2) := by decide +kernel
theorem dX12_isRow_17 : decode cX12_isRow 17 = .ok (.if_icmp .ge 7, 3) := by decide +kernel
theorem dX12_isRow_20 : decode cX12_isRow 20 = .ok (.iconst 1, 1) := by decide +kernel
theorem dX12_isRow_21 : decode cX12_isRow 21 = .ok (.goto 4, 3) := by decide +kernel
theorem dX12_isRow_24 : decode cX12_isRow 24 = .ok (.iconst 0, 1) := by decide +kernel
theorem dX12_isRow_25 : decode cX12_isRow 25 = .ok (.ireturn, 1) := by decide +kernel
theorem dX12_holders_0 : decode cX12_holders 0 = .ok (.iconst 0, 1) := by decide +kernel
theorem dX12_holders_1 : decode cX12_holders 1 = .ok (.istore_n 2, 1) := by decide +kernel
theorem dX12_holders_2 : decode cX12_holders 2 = .ok (.iconst 0, 1) := by decide +kernel
theorem dX12_holders_3 : decode cX12_holders 3 = .ok (.istore_n 3, 1) := by decide +kernel
theorem dX12_holders_4 : decode cX12_holders 4 = .ok (.iload_n 3, 1) := by decide +kernel
theorem dX12_holders_5 : decode cX12_holders 5 = .ok (.bipush 10, 2) := by decide +kernel
theorem dX12_holders_7 : decode cX12_holders 7 = .ok (.if_icmp .ge 27, 3) := by decide +kernel
theorem dX12_holders_10 : decode cX12_holders 10 = .ok (.iload_n 2, 1) := by decide +kernel
theorem dX12_holders_11 : decode cX12_holders 11 = .ok (.aload_n 0, 1) := by decide +kernel
theorem dX12_holders_12 : decode cX12_holders 12 = .ok (.getfield 80, 3) := by decide +kernel
theorem dX12_holders_15 : decode cX12_holders 15 = .ok (.iload_n 3, 1) := by decide +kernel
theorem dX12_holders_16 : decode cX12_holders 16 = .ok (.iaload, 1) := by decide +kernel
theorem dX12_holders_17 : decode cX12_holders 17 = .ok (.iload_n 1, 1) := by decide +kernel
theorem dX12_holders_18 : decode cX12_holders 18 = .ok (.if_icmp .ne 7, 3) := by decide +kernel
theorem dX12_holders_21 : decode cX12_holders 21 = .ok (.iconst 1, 1) := by decide +kernel
theorem dX12_holders_22 : decode cX12_holders 22 = .ok (.goto 4, 3) := by decide +kernel
theorem dX12_holders_25 : decode cX12_holders 25 = .ok (.iconst 0, 1) := by decide +kernel
theorem dX12_holders_26 : decode cX12_holders 26 = .ok (.iadd, 1) := by decide +kernel
theorem dX12_holders_27 : decode cX12_holders 27 = .ok (.istore_n 2, 1) := by decide +kernel
theorem dX12_holders_28 : decode cX12_holders 28 = .ok (.iinc 3 1, 3) := by decide +kernel
theorem dX12_holders_31 : decode cX12_holders 31 = .ok (.goto (-27), 3) := by decide +kernel
theorem dX12_holders_34 : decode cX12_holders 34 = .ok (.iload_n 2, 1) := by decide +kernel
theorem dX12_holders_35 : decode cX12_holders 35 = .ok (.ireturn, 1) := by decide +kernel
theorem dX12_lets_0 : decode cX12_lets 0 = .ok (.aload_n 0, 1) := by decide +kernel
theorem dX12_lets_1 : decode cX12_lets 1 = .ok (.getfield 80, 3) := by decide +kernel
theorem dX12_lets_4 : decode cX12_lets 4 = .ok (.iload_n 1, 1) := by decide +kernel
theorem dX12_lets_5 : decode cX12_lets 5 = .ok (.iaload, 1) := by decide +kernel
theorem dX12_lets_6 : decode cX12_lets 6 = .ok (.istore_n 2, 1) := by decide +kernel
theorem dX12_lets_7 : decode cX12_lets 7 = .ok (.aload_n 0, 1) := by decide +kernel
theorem dX12_lets_8 : decode cX12_lets 8 = .ok (.getfield 80, 3) := by decide +kernel
theorem dX12_lets_11 : decode cX12_lets 11 = .ok (.iload_n 1, 1) := by decide +kernel
theorem dX12_lets_12 : decode cX12_lets 12 = .ok (.bipush (-11), 2) := by decide +kernel
theorem dX12_lets_14 : decode cX12_lets 14 = .ok (.iastore, 1) := by decide +kernel
theorem dX12_lets_15 : decode cX12_lets 15 = .ok (.iload_n 2, 1) := by decide +kernel
theorem dX12_lets_16 : decode cX12_lets 16 = .ok (.ifCond .lt 22, 3) := by decide +kernel
theorem dX12_lets_19 : decode cX12_lets 19 = .ok (.iload_n 2, 1) := by decide +kernel
theorem dX12_lets_20 : decode cX12_lets 20 = .ok (.bipush 10, 2) := by decide +kernel
theorem dX12_lets_22 : decode cX12_lets 22 = .ok (.if_icmp .ge 16, 3) := by decide +kernel
theorem dX12_lets_25 : decode cX12_lets 25 = .ok (.aload_n 0, 1) := by decide +kernel
theorem dX12_lets_26 : decode cX12_lets 26 = .ok (.iload_n 2, 1) := by decide +kernel
theorem dX12_lets_27 : decode cX12_lets 27 = .ok (.invokevirtual 182, 3) := by decide +kernel
theorem dX12_lets_30 : decode cX12_lets 30 = .ok (.ifCond .ne 8, 3) := by decide +kernel
theorem dX12_lets_33 : decode cX12_lets 33 = .ok (.aload_n 0, 1) := by decide +kernel
theorem dX12_lets_34 : decode cX12_lets 34 = .ok (.iload_n 2, 1) := by decide +kernel
theorem dX12_lets_35 : decode cX12_lets 35 = .ok (.invokevirtual 186, 3) := by decide +kernel
theorem dX12_lets_38 : decode cX12_lets 38 = .ok (.return_, 1) := by decide +kernel
theorem dX12_make_0 : decode cX12_make 0 = .ok (.iload_n 1, 1) := by decide +kernel
theorem dX12_make_1 : decode cX12_make 1 = .ok (.invokestatic 190, 3) := by decide +kernel
theorem dX12_make_4 : decode cX12_make 4 = .ok (.ifCond .ne 5, 3) := by decide +kernel
theorem dX12_make_7 : decode cX12_make 7 = .ok (.iconst (-1), 1) := by decide +kernel
theorem dX12_make_8 : decode cX12_make 8 = .ok (.ireturn, 1) := by decide +kernel
theorem dX12_make_9 : decode cX12_make 9 = .ok (.iload_n 2, 1) := by decide +kernel
theorem dX12_make_10 : decode cX12_make 10 = .ok (.i2l, 1) := by decide +kernel
theorem dX12_make_11 : decode cX12_make 11 = .ok (.lconst 0, 1) := by decide +kernel
theorem dX12_make_12 : decode cX12_make 12 = .ok (.ldc2_w 13, 3) := by decide +kernel
theorem dX12_make_15 : decode cX12_make 15 = .ok (.invokestatic 15, 3) := by decide +kernel
theorem dX12_make_18 : decode cX12_make 18 = .ok (.ifCond .eq 9, 3) := by decide +kernel
theorem dX12_make_21 : decode cX12_make 21 = .ok (.iload_n 3, 1) := by decide +kernel
theorem dX12_make_22 : decode cX12_make 22 = .ok (.bipush 32, 2) := by decide +kernel
theorem dX12_make_24 : decode cX12_make 24 = .ok (.if_icmp .le 6, 3) := by decide +kernel
theorem dX12_make_27 : decode cX12_make 27 = .ok (.bipush (-2), 2) := by decide +kernel
theorem dX12_make_29 : decode cX12_make 29 = .ok (.ireturn, 1) := by decide +kernel
theorem dX12_make_30 : decode cX12_make 30 = .ok (.iload_n 3, 1) := by decide +kernel
theorem dX12_make_31 : decode cX12_make 31 = .ok (.ifCond .ge 6, 3) := by decide +kernel
theorem dX12_make_34 : decode cX12_make 34 = .ok (.bipush (-14), 2) := by decide +kernel
theorem dX12_make_36 : decode cX12_make 36 = .ok (.ireturn, 1) := by decide +kernel
theorem dX12_make_37 : decode cX12_make 37 = .ok (.aload_n 0, 1) := by decide +kernel
theorem dX12_make_38 : decode cX12_make 38 = .ok (.iload_n 1, 1) := by decide +kernel
theorem dX12_make_39 : decode cX12_make 39 = .ok (.invokevirtual 194, 3) := by decide +kernel
theorem dX12_make_42 : decode cX12_make 42 = .ok (.iconst 0, 1) := by decide +kernel
theorem dX12_make_43 : decode cX12_make 43 = .ok (.istore 4, 2) := by decide +kernel
theorem dX12_make_45 : decode cX12_make 45 = .ok (.aload_n 0, 1) := by decide +kernel
theorem dX12_make_46 : decode cX12_make 46 = .ok (.iload 4, 2) := by decide +kernel
theorem dX12_make_48 : decode cX12_make 48 = .ok (.invokevirtual 182, 3) := by decide +kernel
theorem dX12_make_51 : decode cX12_make 51 = .ok (.ifCond .le 9, 3) := by decide +kernel
theorem dX12_make_54 : decode cX12_make 54 = .ok (.iinc 4 1, 3) := by decide +kernel
theorem dX12_make_57 : decode cX12_make 57 = .ok (.goto (-12), 3) := by decide +kernel
theorem dX12_make_60 : decode cX12_make 60 = .ok (.aload_n 0, 1) := by decide +kernel
theorem dX12_make_61 : decode cX12_make 61 = .ok (.getfield 80, 3) := by decide +kernel
theorem dX12_make_64 : decode cX12_make 64 = .ok (.iload_n 1, 1) := by decide +kernel
theorem dX12_make_65 : decode cX12_make 65 = .ok (.iload 4, 2) := by decide +kernel
theorem dX12_make_67 : decode cX12_make 67 = .ok (.iastore, 1) := by decide +kernel
theorem dX12_make_68 : decode cX12_make 68 = .ok (.aload_n 0, 1) := by decide +kernel
theorem dX12_make_69 : decode cX12_make 69 = .ok (.getfield 63, 3) := by decide +kernel
theorem dX12_make_72 : decode cX12_make 72 = .ok (.iload 4, 2) := by decide +kernel
theorem dX12_make_74 : decode cX12_make 74 = .ok (.iload_n 2, 1) := by decide +kernel
theorem dX12_make_75 : decode cX12_make 75 = .ok (.iastore, 1) := by decide +kernel
theorem dX12_make_76 : decode cX12_make 76 = .ok (.aload_n 0, 1) := by decide +kernel
theorem dX12_make_77 : decode cX12_make 77 = .ok (.getfield 67, 3) := by decide +kernel
theorem dX12_make_80 : decode cX12_make 80 = .ok (.iload 4, 2) := by decide +kernel
theorem dX12_make_82 : decode cX12_make 82 = .ok (.iload_n 3, 1) := by decide +kernel
theorem dX12_make_83 : decode cX12_make 83 = .ok (.iastore, 1) := by decide +kernel
theorem dX12_make_84 : decode cX12_make 84 = .ok (.aload_n 0, 1) := by decide +kernel
theorem dX12_make_85 : decode cX12_make 85 = .ok (.getfield 70, 3) := by decide +kernel
theorem dX12_make_88 : decode cX12_make 88 = .ok (.iload 4, 2) := by decide +kernel
theorem dX12_make_90 : decode cX12_make 90 = .ok (.iconst 0, 1) := by decide +kernel
theorem dX12_make_91 : decode cX12_make 91 = .ok (.iastore, 1) := by decide +kernel
theorem dX12_make_92 : decode cX12_make 92 = .ok (.iconst 0, 1) := by decide +kernel
theorem dX12_make_93 : decode cX12_make 93 = .ok (.istore 5, 2) := by decide +kernel
theorem dX12_make_95 : decode cX12_make 95 = .ok (.iload 5, 2) := by decide +kernel
theorem dX12_make_97 : decode cX12_make 97 = .ok (.bipush 32, 2) := by decide +kernel
theorem dX12_make_99 : decode cX12_make 99 = .ok (.if_icmp .ge 48, 3) := by decide +kernel
theorem dX12_make_102 : decode cX12_make 102 = .ok (.aload_n 0, 1) := by decide +kernel
theorem dX12_make_103 : decode cX12_make 103 = .ok (.getfield 73, 3) := by decide +kernel
theorem dX12_make_106 : decode cX12_make 106 = .ok (.bipush 32, 2) := by decide +kernel
theorem dX12_make_108 : decode cX12_make 108 = .ok (.iload 4, 2) := by decide +kernel
theorem dX12_make_110 : decode cX12_make 110 = .ok (.imul, 1) := by decide +kernel
theorem dX12_make_111 : decode cX12_make 111 = .ok (.iload 5, 2) := by decide +kernel
theorem dX12_make_113 : decode cX12_make 113 = .ok (.iadd, 1) := by decide +kernel
theorem dX12_make_114 : decode cX12_make 114 = .ok (.iload_n 2, 1) := by decide +kernel
theorem dX12_make_115 : decode cX12_make 115 = .ok (.bipush 8, 2) := by decide +kernel
theorem dX12_make_117 : decode cX12_make 117 = .ok (.if_icmp .ge 7, 3) := by decide +kernel
theorem dX12_make_120 : decode cX12_make 120 = .ok (.iload_n 2, 1) := by decide +kernel
theorem dX12_make_121 : decode cX12_make 121 = .ok (.goto 5, 3) := by decide +kernel
theorem dX12_make_124 : decode cX12_make 124 = .ok (.bipush 8, 2) := by decide +kernel
theorem dX12_make_126 : decode cX12_make 126 = .ok (.iastore, 1) := by decide +kernel
theorem dX12_make_127 : decode cX12_make 127 = .ok (.aload_n 0, 1) := by decide +kernel
theorem dX12_make_128 : decode cX12_make 128 = .ok (.getfield 76, 3) := by decide +kernel
theorem dX12_make_131 : decode cX12_make 131 = .ok (.bipush 32, 2) := by decide +kernel
theorem dX12_make_133 : decode cX12_make 133 = .ok (.iload 4, 2) := by decide +kernel
theorem dX12_make_135 : decode cX12_make 135 = .ok (.imul, 1) := by decide +kernel
theorem dX12_make_136 : decode cX12_make 136 = .ok (.iload 5, 2) := by decide +kernel
theorem dX12_make_138 : decode cX12_make 138 = .ok (.iadd, 1) := by decide +kernel
theorem dX12_make_139 : decode cX12_make 139 = .ok (.lconst 0, 1) := by decide +kernel
theorem dX12_make_140 : decode cX12_make 140 = .ok (.lastore, 1) := by decide +kernel
theorem dX12_make_141 : decode cX12_make 141 = .ok (.iinc 5 1, 3) := by decide +kernel
theorem dX12_make_144 : decode cX12_make 144 = .ok (.goto (-49), 3) := by decide +kernel
theorem dX12_make_147 : decode cX12_make 147 = .ok (.iconst 1, 1) := by decide +kernel
theorem dX12_make_148 : decode cX12_make 148 = .ok (.ireturn, 1) := by decide +kernel
theorem dX12_thing_0 : decode cX12_thing 0 = .ok (.iload_n 1, 1) := by decide +kernel
theorem dX12_thing_1 : decode cX12_thing 1 = .ok (.invokestatic 190, 3) := by decide +kernel
theorem dX12_thing_4 : decode cX12_thing 4 = .ok (.ifCond .ne 5, 3) := by decide +kernel
theorem dX12_thing_7 : decode cX12_thing 7 = .ok (.iconst (-1), 1) := by decide +kernel
theorem dX12_thing_8 : decode cX12_thing 8 = .ok (.ireturn, 1) := by decide +kernel
theorem dX12_thing_9 : decode cX12_thing 9 = .ok (.iload_n 2, 1) := by decide +kernel
theorem dX12_thing_10 : decode cX12_thing 10 = .ok (.i2l, 1) := by decide +kernel
theorem dX12_thing_11 : decode cX12_thing 11 = .ok (.ldc2_w 197, 3) := by decide +kernel
theorem dX12_thing_14 : decode cX12_thing 14 = .ok (.lconst 1, 1) := by decide +kernel
theorem dX12_thing_15 : decode cX12_thing 15 = .ok (.invokestatic 15, 3) := by decide +kernel
theorem dX12_thing_18 : decode cX12_thing 18 = .ok (.ifCond .eq 20, 3) := by decide +kernel
theorem dX12_thing_21 : decode cX12_thing 21 = .ok (.iload_n 2, 1) := by decide +kernel
theorem dX12_thing_22 : decode cX12_thing 22 = .ok (.iconst 1, 1) := by decide +kernel
theorem dX12_thing_23 : decode cX12_thing 23 = .ok (.if_icmp .ne 18, 3) := by decide +kernel
theorem dX12_thing_26 : decode cX12_thing 26 = .ok (.iload_n 3, 1) := by decide +kernel
theorem dX12_thing_27 : decode cX12_thing 27 = .ok (.i2l, 1) := by decide +kernel
theorem dX12_thing_28 : decode cX12_thing 28 = .ok (.lconst 0, 1) := by decide +kernel
theorem dX12_thing_29 : decode cX12_thing 29 = .ok (.ldc2_w 13, 3) := by decide +kernel
theorem dX12_thing_32 : decode cX12_thing 32 = .ok (.invokestatic 15, 3) := by decide +kernel
theorem dX12_thing_35 : decode cX12_thing 35 = .ok (.ifCond .ne 6, 3) := by decide +kernel
theorem dX12_thing_38 : decode cX12_thing 38 = .ok (.bipush (-2), 2) := by decide +kernel
theorem dX12_thing_40 : decode cX12_thing 40 = .ok (.ireturn, 1) := by decide +kernel
theorem dX12_thing_41 : decode cX12_thing 41 = .ok (.aload_n 0, 1) := by decide +kernel
theorem dX12_thing_42 : decode cX12_thing 42 = .ok (.iload_n 1, 1) := by decide +kernel
theorem dX12_thing_43 : decode cX12_thing 43 = .ok (.invokevirtual 194, 3) := by decide +kernel
theorem dX12_thing_46 : decode cX12_thing 46 = .ok (.aload_n 0, 1) := by decide +kernel
theorem dX12_thing_47 : decode cX12_thing 47 = .ok (.getfield 80, 3) := by decide +kernel
theorem dX12_thing_50 : decode cX12_thing 50 = .ok (.iload_n 1, 1) := by decide +kernel
theorem dX12_thing_51 : decode cX12_thing 51 = .ok (.iload_n 2, 1) := by decide +kernel
theorem dX12_thing_52 : decode cX12_thing 52 = .ok (.iconst (-1), 1) := by decide +kernel
theorem dX12_thing_53 : decode cX12_thing 53 = .ok (.if_icmp .ne 8, 3) := by decide +kernel
theorem dX12_thing_56 : decode cX12_thing 56 = .ok (.bipush (-11), 2) := by decide +kernel
theorem dX12_thing_58 : decode cX12_thing 58 = .ok (.goto 7, 3) := by decide +kernel
theorem dX12_thing_61 : decode cX12_thing 61 = .ok (.bipush 10, 2) := by decide +kernel
theorem dX12_thing_63 : decode cX12_thing 63 = .ok (.iload_n 2, 1) := by decide +kernel
theorem dX12_thing_64 : decode cX12_thing 64 = .ok (.iadd, 1) := by decide +kernel
theorem dX12_thing_65 : decode cX12_thing 65 = .ok (.iastore, 1) := by decide +kernel
theorem dX12_thing_66 : decode cX12_thing 66 = .ok (.aload_n 0, 1) := by decide +kernel
theorem dX12_thing_67 : decode cX12_thing 67 = .ok (.getfield 83, 3) := by decide +kernel
theorem dX12_thing_70 : decode cX12_thing 70 = .ok (.iload_n 1, 1) := by decide +kernel
theorem dX12_thing_71 : decode cX12_thing 71 = .ok (.iload_n 2, 1) := by decide +kernel
theorem dX12_thing_72 : decode cX12_thing 72 = .ok (.iconst (-1), 1) := by decide +kernel
theorem dX12_thing_73 : decode cX12_thing 73 = .ok (.if_icmp .ne 7, 3) := by decide +kernel
theorem dX12_thing_76 : decode cX12_thing 76 = .ok (.iconst 0, 1) := by decide +kernel
theorem dX12_thing_77 : decode cX12_thing 77 = .ok (.goto 4, 3) := by decide +kernel
theorem dX12_thing_80 : decode cX12_thing 80 = .ok (.iload_n 3, 1) := by decide +kernel
theorem dX12_thing_81 : decode cX12_thing 81 = .ok (.iastore, 1) := by decide +kernel
theorem dX12_thing_82 : decode cX12_thing 82 = .ok (.iconst 1, 1) := by decide +kernel
theorem dX12_thing_83 : decode cX12_thing 83 = .ok (.ireturn, 1) := by decide +kernel
theorem dX12_same_0 : decode cX12_same 0 = .ok (.iload_n 1, 1) := by decide +kernel
theorem dX12_same_1 : decode cX12_same 1 = .ok (.invokestatic 190, 3) := by decide +kernel
theorem dX12_same_4 : decode cX12_same 4 = .ok (.ifCond .eq 10, 3) := by decide +kernel
theorem dX12_same_7 : decode cX12_same 7 = .ok (.iload_n 2, 1) := by decide +kernel
theorem dX12_same_8 : decode cX12_same 8 = .ok (.invokestatic 190, 3) := by decide +kernel
theorem dX12_same_11 : decode cX12_same 11 = .ok (.ifCond .ne 5, 3) := by decide +kernel
theorem dX12_same_14 : decode cX12_same 14 = .ok (.iconst (-1), 1) := by decide +kernel
theorem dX12_same_15 : decode cX12_same 15 = .ok (.ireturn, 1) := by decide +kernel
theorem dX12_same_16 : decode cX12_same 16 = .ok (.iload_n 1, 1) := by decide +kernel
theorem dX12_same_17 : decode cX12_same 17 = .ok (.iload_n 2, 1) := by decide +kernel
theorem dX12_same_18 : decode cX12_same 18 = .ok (.if_icmp .eq 55, 3) := by decide +kernel
theorem dX12_same_21 : decode cX12_same 21 = .ok (.aload_n 0, 1) := by decide +kernel
theorem dX12_same_22 : decode cX12_same 22 = .ok (.iload_n 1, 1) := by decide +kernel
theorem dX12_same_23 : decode cX12_same 23 = .ok (.invokevirtual 199, 3) := by decide +kernel
theorem dX12_same_26 : decode cX12_same 26 = .ok (.ifCond .eq 18, 3) := by decide +kernel
theorem dX12_same_29 : decode cX12_same 29 = .ok (.aload_n 0, 1) := by decide +kernel
theorem dX12_same_30 : decode cX12_same 30 = .ok (.getfield 80, 3) := by decide +kernel
theorem dX12_same_33 : decode cX12_same 33 = .ok (.iload_n 1, 1) := by decide +kernel
theorem dX12_same_34 : decode cX12_same 34 = .ok (.iaload, 1) := by decide +kernel
theorem dX12_same_35 : decode cX12_same 35 = .ok (.aload_n 0, 1) := by decide +kernel
theorem dX12_same_36 : decode cX12_same 36 = .ok (.getfield 80, 3) := by decide +kernel
theorem dX12_same_39 : decode cX12_same 39 = .ok (.iload_n 2, 1) := by decide +kernel
theorem dX12_same_40 : decode cX12_same 40 = .ok (.iaload, 1) := by decide +kernel
theorem dX12_same_41 : decode cX12_same 41 = .ok (.if_icmp .eq 32, 3) := by decide +kernel
theorem dX12_same_44 : decode cX12_same 44 = .ok (.aload_n 0, 1) := by decide +kernel
theorem dX12_same_45 : decode cX12_same 45 = .ok (.iload_n 1, 1) := by decide +kernel
theorem dX12_same_46 : decode cX12_same 46 = .ok (.invokevirtual 194, 3) := by decide +kernel
theorem dX12_same_49 : decode cX12_same 49 = .ok (.aload_n 0, 1) := by decide +kernel
theorem dX12_same_50 : decode cX12_same 50 = .ok (.getfield 80, 3) := by decide +kernel
theorem dX12_same_53 : decode cX12_same 53 = .ok (.iload_n 1, 1) := by decide +kernel
theorem dX12_same_54 : decode cX12_same 54 = .ok (.aload_n 0, 1) := by decide +kernel
theorem dX12_same_55 : decode cX12_same 55 = .ok (.getfield 80, 3) := by decide +kernel
theorem dX12_same_58 : decode cX12_same 58 = .ok (.iload_n 2, 1) := by decide +kernel
theorem dX12_same_59 : decode cX12_same 59 = .ok (.iaload, 1) := by decide +kernel
theorem dX12_same_60 : decode cX12_same 60 = .ok (.iastore, 1) := by decide +kernel
theorem dX12_same_61 : decode cX12_same 61 = .ok (.aload_n 0, 1) := by decide +kernel
theorem dX12_same_62 : decode cX12_same 62 = .ok (.getfield 83, 3) := by decide +kernel
theorem dX12_same_65 : decode cX12_same 65 = .ok (.iload_n 1, 1) := by decide +kernel
theorem dX12_same_66 : decode cX12_same 66 = .ok (.aload_n 0, 1) := by decide +kernel
theorem dX12_same_67 : decode cX12_same 67 = .ok (.getfield 83, 3) := by decide +kernel
theorem dX12_same_70 : decode cX12_same 70 = .ok (.iload_n 2, 1) := by decide +kernel
theorem dX12_same_71 : decode cX12_same 71 = .ok (.iaload, 1) := by decide +kernel
theorem dX12_same_72 : decode cX12_same 72 = .ok (.iastore, 1) := by decide +kernel
theorem dX12_same_73 : decode cX12_same 73 = .ok (.iconst 1, 1) := by decide +kernel
theorem dX12_same_74 : decode cX12_same 74 = .ok (.ireturn, 1) := by decide +kernel
theorem dX12_bits_0 : decode cX12_bits 0 = .ok (.iload_n 0, 1) := by decide +kernel
theorem dX12_bits_1 : decode cX12_bits 1 = .ok (.invokestatic 202, 3) := by decide +kernel
theorem dX12_bits_4 : decode cX12_bits 4 = .ok (.ireturn, 1) := by decide +kernel
theorem dX12_of_0 : decode cX12_of 0 = .ok (.iload_n 1, 1) := by decide +kernel
theorem dX12_of_1 : decode cX12_of 1 = .ok (.invokestatic 190, 3) := by decide +kernel
theorem dX12_of_4 : decode cX12_of 4 = .ok (.ifCond .eq 15, 3) := by decide +kernel
theorem dX12_of_7 : decode cX12_of 7 = .ok (.iload_n 2, 1) := by decide +kernel
theorem dX12_of_8 : decode cX12_of 8 = .ok (.i2l, 1) := by decide +kernel
theorem dX12_of_9 : decode cX12_of 9 = .ok (.lconst 0, 1) := by decide +kernel
theorem dX12_of_10 : decode cX12_of 10 = .ok (.ldc2_w 39, 3) := by decide +kernel
theorem dX12_of_13 : decode cX12_of 13 = .ok (.invokestatic 15, 3) := by decide +kernel
theorem dX12_of_16 : decode cX12_of 16 = .ok (.ifCond .ne 5, 3) := by decide +kernel
theorem dX12_of_19 : decode cX12_of 19 = .ok (.iconst (-1), 1) := by decide +kernel
theorem dX12_of_20 : decode cX12_of 20 = .ok (.ireturn, 1) := by decide +kernel
theorem dX12_of_21 : decode cX12_of 21 = .ok (.iload_n 2, 1) := by decide +kernel
theorem dX12_of_22 : decode cX12_of 22 = .ok (.ifCond .ne 47, 3) := by decide +kernel
theorem dX12_of_25 : decode cX12_of 25 = .ok (.aload_n 0, 1) := by decide +kernel
theorem dX12_of_26 : decode cX12_of 26 = .ok (.getfield 80, 3) := by decide +kernel
theorem dX12_of_29 : decode cX12_of 29 = .ok (.iload_n 1, 1) := by decide +kernel
theorem dX12_of_30 : decode cX12_of 30 = .ok (.iaload, 1) := by decide +kernel
theorem dX12_of_31 : decode cX12_of 31 = .ok (.bipush (-11), 2) := by decide +kernel
theorem dX12_of_33 : decode cX12_of 33 = .ok (.if_icmp .ne 7, 3) := by decide +kernel
theorem dX12_of_36 : decode cX12_of 36 = .ok (.iconst (-1), 1) := by decide +kernel
theorem dX12_of_37 : decode cX12_of 37 = .ok (.goto 31, 3) := by decide +kernel
theorem dX12_of_40 : decode cX12_of 40 = .ok (.aload_n 0, 1) := by decide +kernel
theorem dX12_of_41 : decode cX12_of 41 = .ok (.iload_n 1, 1) := by decide +kernel
theorem dX12_of_42 : decode cX12_of 42 = .ok (.invokevirtual 199, 3) := by decide +kernel
theorem dX12_of_45 : decode cX12_of 45 = .ok (.ifCond .eq 17, 3) := by decide +kernel
theorem dX12_of_48 : decode cX12_of 48 = .ok (.aload_n 0, 1) := by decide +kernel
theorem dX12_of_49 : decode cX12_of 49 = .ok (.getfield 63, 3) := by decide +kernel
theorem dX12_of_52 : decode cX12_of 52 = .ok (.aload_n 0, 1) := by decide +kernel
theorem dX12_of_53 : decode cX12_of 53 = .ok (.getfield 80, 3) := by decide +kernel
theorem dX12_of_56 : decode cX12_of 56 = .ok (.iload_n 1, 1) := by decide +kernel
theorem dX12_of_57 : decode cX12_of 57 = .ok (.iaload, 1) := by decide +kernel
theorem dX12_of_58 : decode cX12_of 58 = .ok (.iaload, 1) := by decide +kernel
theorem dX12_of_59 : decode cX12_of 59 = .ok (.goto 9, 3) := by decide +kernel
theorem dX12_of_62 : decode cX12_of 62 = .ok (.aload_n 0, 1) := by decide +kernel
theorem dX12_of_63 : decode cX12_of 63 = .ok (.getfield 80, 3) := by decide +kernel
theorem dX12_of_66 : decode cX12_of 66 = .ok (.iload_n 1, 1) := by decide +kernel
theorem dX12_of_67 : decode cX12_of 67 = .ok (.iaload, 1) := by decide +kernel
theorem dX12_of_68 : decode cX12_of 68 = .ok (.ireturn, 1) := by decide +kernel
theorem dX12_of_69 : decode cX12_of 69 = .ok (.aload_n 0, 1) := by decide +kernel
theorem dX12_of_70 : decode cX12_of 70 = .ok (.iload_n 1, 1) := by decide +kernel
theorem dX12_of_71 : decode cX12_of 71 = .ok (.invokevirtual 199, 3) := by decide +kernel
theorem dX12_of_74 : decode cX12_of 74 = .ok (.ifCond .ne 22, 3) := by decide +kernel
theorem dX12_of_77 : decode cX12_of 77 = .ok (.aload_n 0, 1) := by decide +kernel
theorem dX12_of_78 : decode cX12_of 78 = .ok (.getfield 80, 3) := by decide +kernel
theorem dX12_of_81 : decode cX12_of 81 = .ok (.iload_n 1, 1) := by decide +kernel
theorem dX12_of_82 : decode cX12_of 82 = .ok (.iaload, 1) := by decide +kernel
theorem dX12_of_83 : decode cX12_of 83 = .ok (.bipush (-11), 2) := by decide +kernel
theorem dX12_of_85 : decode cX12_of 85 = .ok (.if_icmp .ne 8, 3) := by decide +kernel
theorem dX12_of_88 : decode cX12_of 88 = .ok (.bipush (-11), 2) := by decide +kernel
theorem dX12_of_90 : decode cX12_of 90 = .ok (.goto 5, 3) := by decide +kernel
theorem dX12_of_93 : decode cX12_of 93 = .ok (.bipush (-12), 2) := by decide +kernel
theorem dX12_of_95 : decode cX12_of 95 = .ok (.ireturn, 1) := by decide +kernel
theorem dX12_of_96 : decode cX12_of 96 = .ok (.aload_n 0, 1) := by decide +kernel
theorem dX12_of_97 : decode cX12_of 97 = .ok (.getfield 80, 3) := by decide +kernel
theorem dX12_of_100 : decode cX12_of 100 = .ok (.iload_n 1, 1) := by decide +kernel
theorem dX12_of_101 : decode cX12_of 101 = .ok (.iaload, 1) := by decide +kernel
theorem dX12_of_102 : decode cX12_of 102 = .ok (.istore_n 3, 1) := by decide +kernel
theorem dX12_of_103 : decode cX12_of 103 = .ok (.iload_n 2, 1) := by decide +kernel
theorem dX12_of_104 : decode cX12_of 104 = .ok (.tableswitch 51 1 3 #[28, 35, 41], 28) := by decide +kernel
theorem dX12_of_132 : decode cX12_of 132 = .ok (.aload_n 0, 1) := by decide +kernel
theorem dX12_of_133 : decode cX12_of 133 = .ok (.getfield 67, 3) := by decide +kernel
theorem dX12_of_136 : decode cX12_of 136 = .ok (.iload_n 3, 1) := by decide +kernel
theorem dX12_of_137 : decode cX12_of 137 = .ok (.iaload, 1) := by decide +kernel
theorem dX12_of_138 : decode cX12_of 138 = .ok (.ireturn, 1) := by decide +kernel
theorem dX12_of_139 : decode cX12_of 139 = .ok (.aload_n 0, 1) := by decide +kernel
theorem dX12_of_140 : decode cX12_of 140 = .ok (.iload_n 3, 1) := by decide +kernel
theorem dX12_of_141 : decode cX12_of 141 = .ok (.invokevirtual 182, 3) := by decide +kernel
theorem dX12_of_144 : decode cX12_of 144 = .ok (.ireturn, 1) := by decide +kernel
theorem dX12_of_145 : decode cX12_of 145 = .ok (.aload_n 0, 1) := by decide +kernel
theorem dX12_of_146 : decode cX12_of 146 = .ok (.getfield 70, 3) := by decide +kernel
theorem dX12_of_149 : decode cX12_of 149 = .ok (.iload_n 3, 1) := by decide +kernel
theorem dX12_of_150 : decode cX12_of 150 = .ok (.iaload, 1) := by decide +kernel
theorem dX12_of_151 : decode cX12_of 151 = .ok (.invokestatic 207, 3) := by decide +kernel
theorem dX12_of_154 : decode cX12_of 154 = .ok (.ireturn, 1) := by decide +kernel
theorem dX12_of_155 : decode cX12_of 155 = .ok (.aload_n 0, 1) := by decide +kernel
theorem dX12_of_156 : decode cX12_of 156 = .ok (.getfield 70, 3) := by decide +kernel
theorem dX12_of_159 : decode cX12_of 159 = .ok (.iload_n 3, 1) := by decide +kernel
theorem dX12_of_160 : decode cX12_of 160 = .ok (.iaload, 1) := by decide +kernel
theorem dX12_of_161 : decode cX12_of 161 = .ok (.ifCond .ne 8, 3) := by decide +kernel
theorem dX12_of_164 : decode cX12_of 164 = .ok (.bipush (-5), 2) := by decide +kernel
theorem dX12_of_166 : decode cX12_of 166 = .ok (.goto 12, 3) := by decide +kernel
theorem dX12_of_169 : decode cX12_of 169 = .ok (.aload_n 0, 1) := by decide +kernel
theorem dX12_of_170 : decode cX12_of 170 = .ok (.getfield 70, 3) := by decide +kernel
theorem dX12_of_173 : decode cX12_of 173 = .ok (.iload_n 3, 1) := by decide +kernel
theorem dX12_of_174 : decode cX12_of 174 = .ok (.iaload, 1) := by decide +kernel
theorem dX12_of_175 : decode cX12_of 175 = .ok (.invokestatic 210, 3) := by decide +kernel
theorem dX12_of_178 : decode cX12_of 178 = .ok (.ireturn, 1) := by decide +kernel
theorem dX12_reads_0 : decode cX12_reads 0 = .ok (.aload_n 0, 1) := by decide +kernel
theorem dX12_reads_1 : decode cX12_reads 1 = .ok (.getfield 80, 3) := by decide +kernel
theorem dX12_reads_4 : decode cX12_reads 4 = .ok (.iload_n 1, 1) := by decide +kernel
theorem dX12_reads_5 : decode cX12_reads 5 = .ok (.iaload, 1) := by decide +kernel
theorem dX12_reads_6 : decode cX12_reads 6 = .ok (.bipush (-11), 2) := by decide +kernel
theorem dX12_reads_8 : decode cX12_reads 8 = .ok (.if_icmp .ne 6, 3) := by decide +kernel
theorem dX12_reads_11 : decode cX12_reads 11 = .ok (.bipush (-11), 2) := by decide +kernel
theorem dX12_reads_13 : decode cX12_reads 13 = .ok (.ireturn, 1) := by decide +kernel
theorem dX12_reads_14 : decode cX12_reads 14 = .ok (.aload_n 0, 1) := by decide +kernel
theorem dX12_reads_15 : decode cX12_reads 15 = .ok (.iload_n 1, 1) := by decide +kernel
theorem dX12_reads_16 : decode cX12_reads 16 = .ok (.invokevirtual 199, 3) := by decide +kernel
theorem dX12_reads_19 : decode cX12_reads 19 = .ok (.ifCond .eq 25, 3) := by decide +kernel
theorem dX12_reads_22 : decode cX12_reads 22 = .ok (.iload_n 3, 1) := by decide +kernel
theorem dX12_reads_23 : decode cX12_reads 23 = .ok (.bipush 8, 2) := by decide +kernel
theorem dX12_reads_25 : decode cX12_reads 25 = .ok (.if_icmp .eq 22, 3) := by decide +kernel
theorem dX12_reads_28 : decode cX12_reads 28 = .ok (.aload_n 0, 1) := by decide +kernel
theorem dX12_reads_29 : decode cX12_reads 29 = .ok (.getfield 63, 3) := by decide +kernel
theorem dX12_reads_32 : decode cX12_reads 32 = .ok (.aload_n 0, 1) := by decide +kernel
theorem dX12_reads_33 : decode cX12_reads 33 = .ok (.getfield 80, 3) := by decide +kernel
theorem dX12_reads_36 : decode cX12_reads 36 = .ok (.iload_n 1, 1) := by decide +kernel
theorem dX12_reads_37 : decode cX12_reads 37 = .ok (.iaload, 1) := by decide +kernel
theorem dX12_reads_38 : decode cX12_reads 38 = .ok (.iaload, 1) := by decide +kernel
theorem dX12_reads_39 : decode cX12_reads 39 = .ok (.bipush 8, 2) := by decide +kernel
theorem dX12_reads_41 : decode cX12_reads 41 = .ok (.if_icmp .lt 6, 3) := by decide +kernel
theorem dX12_reads_44 : decode cX12_reads 44 = .ok (.bipush (-12), 2) := by decide +kernel
theorem dX12_reads_46 : decode cX12_reads 46 = .ok (.ireturn, 1) := by decide +kernel
theorem dX12_reads_47 : decode cX12_reads 47 = .ok (.aload_n 0, 1) := by decide +kernel
theorem dX12_reads_48 : decode cX12_reads 48 = .ok (.getfield 80, 3) := by decide +kernel
theorem dX12_reads_51 : decode cX12_reads 51 = .ok (.iload_n 1, 1) := by decide +kernel
theorem dX12_reads_52 : decode cX12_reads 52 = .ok (.iaload, 1) := by decide +kernel
theorem dX12_reads_53 : decode cX12_reads 53 = .ok (.istore 4, 2) := by decide +kernel
theorem dX12_reads_55 : decode cX12_reads 55 = .ok (.iload_n 2, 1) := by decide +kernel
theorem dX12_reads_56 : decode cX12_reads 56 = .ok (.i2l, 1) := by decide +kernel
theorem dX12_reads_57 : decode cX12_reads 57 = .ok (.lconst 0, 1) := by decide +kernel
theorem dX12_reads_58 : decode cX12_reads 58 = .ok (.aload_n 0, 1) := by decide +kernel
theorem dX12_reads_59 : decode cX12_reads 59 = .ok (.getfield 67, 3) := by decide +kernel
theorem dX12_reads_62 : decode cX12_reads 62 = .ok (.iload 4, 2) := by decide +kernel
theorem dX12_reads_64 : decode cX12_reads 64 = .ok (.iaload, 1) := by decide +kernel
theorem dX12_reads_65 : decode cX12_reads 65 = .ok (.iconst 1, 1) := by decide +kernel
theorem dX12_reads_66 : decode cX12_reads 66 = .ok (.isub, 1) := by decide +kernel
theorem dX12_reads_67 : decode cX12_reads 67 = .ok (.i2l, 1) := by decide +kernel
theorem dX12_reads_68 : decode cX12_reads 68 = .ok (.invokestatic 15, 3) := by decide +kernel
theorem dX12_reads_71 : decode cX12_reads 71 = .ok (.ifCond .ne 6, 3) := by decide +kernel
theorem dX12_reads_74 : decode cX12_reads 74 = .ok (.bipush (-13), 2) := by decide +kernel
theorem dX12_reads_76 : decode cX12_reads 76 = .ok (.ireturn, 1) := by decide +kernel
theorem dX12_reads_77 : decode cX12_reads 77 = .ok (.bipush 32, 2) := by decide +kernel
theorem dX12_reads_79 : decode cX12_reads 79 = .ok (.iload 4, 2) := by decide +kernel
theorem dX12_reads_81 : decode cX12_reads 81 = .ok (.imul, 1) := by decide +kernel
theorem dX12_reads_82 : decode cX12_reads 82 = .ok (.iload_n 2, 1) := by decide +kernel
theorem dX12_reads_83 : decode cX12_reads 83 = .ok (.iadd, 1) := by decide +kernel
theorem dX12_reads_84 : decode cX12_reads 84 = .ok (.istore 5, 2) := by decide +kernel
theorem dX12_reads_86 : decode cX12_reads 86 = .ok (.iload_n 3, 1) := by decide +kernel
theorem dX12_reads_87 : decode cX12_reads 87 = .ok (.bipush 8, 2) := by decide +kernel
theorem dX12_reads_89 : decode cX12_reads 89 = .ok (.if_icmp .ne 23, 3) := by decide +kernel
theorem dX12_reads_92 : decode cX12_reads 92 = .ok (.aload_n 0, 1) := by decide +kernel
theorem dX12_reads_93 : decode cX12_reads 93 = .ok (.aload_n 0, 1) := by decide +kernel
theorem dX12_reads_94 : decode cX12_reads 94 = .ok (.getfield 73, 3) := by decide +kernel
theorem dX12_reads_97 : decode cX12_reads 97 = .ok (.iload 5, 2) := by decide +kernel
theorem dX12_reads_99 : decode cX12_reads 99 = .ok (.iaload, 1) := by decide +kernel
theorem dX12_reads_100 : decode cX12_reads 100 = .ok (.aload_n 0, 1) := by decide +kernel
theorem dX12_reads_101 : decode cX12_reads 101 = .ok (.getfield 76, 3) := by decide +kernel
theorem dX12_reads_104 : decode cX12_reads 104 = .ok (.iload 5, 2) := by decide +kernel
theorem dX12_reads_106 : decode cX12_reads 106 = .ok (.laload, 1) := by decide +kernel
theorem dX12_reads_107 : decode cX12_reads 107 = .ok (.invokevirtual 19, 3) := by decide +kernel
theorem dX12_reads_110 : decode cX12_reads 110 = .ok (.iconst 0, 1) := by decide +kernel
theorem dX12_reads_111 : decode cX12_reads 111 = .ok (.ireturn, 1) := by decide +kernel
theorem dX12_reads_112 : decode cX12_reads 112 = .ok (.aload_n 0, 1) := by decide +kernel
theorem dX12_reads_113 : decode cX12_reads 113 = .ok (.getfield 63, 3) := by decide +kernel
theorem dX12_reads_116 : decode cX12_reads 116 = .ok (.iload 4, 2) := by decide +kernel
theorem dX12_reads_118 : decode cX12_reads 118 = .ok (.iaload, 1) := by decide +kernel
theorem dX12_reads_119 : decode cX12_reads 119 = .ok (.iload_n 3, 1) := by decide +kernel
theorem dX12_reads_120 : decode cX12_reads 120 = .ok (.invokestatic 213, 3) := by decide +kernel
theorem dX12_reads_123 : decode cX12_reads 123 = .ok (.ifCond .ne 6, 3) := by decide +kernel
theorem dX12_reads_126 : decode cX12_reads 126 = .ok (.bipush (-12), 2) := by decide +kernel
theorem dX12_reads_128 : decode cX12_reads 128 = .ok (.ireturn, 1) := by decide +kernel
theorem dX12_reads_129 : decode cX12_reads 129 = .ok (.aload_n 0, 1) := by decide +kernel
theorem dX12_reads_130 : decode cX12_reads 130 = .ok (.iload_n 3, 1) := by decide +kernel
theorem dX12_reads_131 : decode cX12_reads 131 = .ok (.aload_n 0, 1) := by decide +kernel
theorem dX12_reads_132 : decode cX12_reads 132 = .ok (.getfield 63, 3) := by decide +kernel
theorem dX12_reads_135 : decode cX12_reads 135 = .ok (.iload 4, 2) := by decide +kernel
theorem dX12_reads_137 : decode cX12_reads 137 = .ok (.iaload, 1) := by decide +kernel
theorem dX12_reads_138 : decode cX12_reads 138 = .ok (.aload_n 0, 1) := by decide +kernel
theorem dX12_reads_139 : decode cX12_reads 139 = .ok (.getfield 76, 3) := by decide +kernel
theorem dX12_reads_142 : decode cX12_reads 142 = .ok (.iload 5, 2) := by decide +kernel
theorem dX12_reads_144 : decode cX12_reads 144 = .ok (.laload, 1) := by decide +kernel
theorem dX12_reads_145 : decode cX12_reads 145 = .ok (.iload_n 3, 1) := by decide +kernel
theorem dX12_reads_146 : decode cX12_reads 146 = .ok (.invokestatic 217, 3) := by decide +kernel
theorem dX12_reads_149 : decode cX12_reads 149 = .ok (.invokevirtual 19, 3) := by decide +kernel
theorem dX12_reads_152 : decode cX12_reads 152 = .ok (.iconst 0, 1) := by decide +kernel
theorem dX12_reads_153 : decode cX12_reads 153 = .ok (.ireturn, 1) := by decide +kernel
theorem dX12_puts_0 : decode cX12_puts 0 = .ok (.aload_n 0, 1) := by decide +kernel
theorem dX12_puts_1 : decode cX12_puts 1 = .ok (.getfield 80, 3) := by decide +kernel
theorem dX12_puts_4 : decode cX12_puts 4 = .ok (.iload_n 1, 1) := by decide +kernel
theorem dX12_puts_5 : decode cX12_puts 5 = .ok (.iaload, 1) := by decide +kernel
theorem dX12_puts_6 : decode cX12_puts 6 = .ok (.bipush (-11), 2) := by decide +kernel
theorem dX12_puts_8 : decode cX12_puts 8 = .ok (.if_icmp .ne 6, 3) := by decide +kernel
theorem dX12_puts_11 : decode cX12_puts 11 = .ok (.bipush (-11), 2) := by decide +kernel
theorem dX12_puts_13 : decode cX12_puts 13 = .ok (.ireturn, 1) := by decide +kernel
theorem dX12_puts_14 : decode cX12_puts 14 = .ok (.aload_n 0, 1) := by decide +kernel
theorem dX12_puts_15 : decode cX12_puts 15 = .ok (.iload_n 1, 1) := by decide +kernel
theorem dX12_puts_16 : decode cX12_puts 16 = .ok (.invokevirtual 199, 3) := by decide +kernel
theorem dX12_puts_19 : decode cX12_puts 19 = .ok (.ifCond .eq 28, 3) := by decide +kernel
theorem dX12_puts_22 : decode cX12_puts 22 = .ok (.aload_n 0, 1) := by decide +kernel
theorem dX12_puts_23 : decode cX12_puts 23 = .ok (.getfield 63, 3) := by decide +kernel
theorem dX12_puts_26 : decode cX12_puts 26 = .ok (.aload_n 0, 1) := by decide +kernel
theorem dX12_puts_27 : decode cX12_puts 27 = .ok (.getfield 80, 3) := by decide +kernel
theorem dX12_puts_30 : decode cX12_puts 30 = .ok (.iload_n 1, 1) := by decide +kernel
theorem dX12_puts_31 : decode cX12_puts 31 = .ok (.iaload, 1) := by decide +kernel
theorem dX12_puts_32 : decode cX12_puts 32 = .ok (.iaload, 1) := by decide +kernel
theorem dX12_puts_33 : decode cX12_puts 33 = .ok (.bipush 8, 2) := by decide +kernel
theorem dX12_puts_35 : decode cX12_puts 35 = .ok (.if_icmp .ge 15, 3) := by decide +kernel
theorem dX12_puts_38 : decode cX12_puts 38 = .ok (.aload_n 0, 1) := by decide +kernel
theorem dX12_puts_39 : decode cX12_puts 39 = .ok (.getfield 3, 3) := by decide +kernel
theorem dX12_puts_42 : decode cX12_puts 42 = .ok (.bipush 8, 2) := by decide +kernel
theorem dX12_puts_44 : decode cX12_puts 44 = .ok (.if_icmp .ne 6, 3) := by decide +kernel
theorem dX12_puts_47 : decode cX12_puts 47 = .ok (.bipush (-12), 2) := by decide +kernel
theorem dX12_puts_49 : decode cX12_puts 49 = .ok (.ireturn, 1) := by decide +kernel
theorem dX12_puts_50 : decode cX12_puts 50 = .ok (.aload_n 0, 1) := by decide +kernel
theorem dX12_puts_51 : decode cX12_puts 51 = .ok (.getfield 80, 3) := by decide +kernel
theorem dX12_puts_54 : decode cX12_puts 54 = .ok (.iload_n 1, 1) := by decide +kernel
theorem dX12_puts_55 : decode cX12_puts 55 = .ok (.iaload, 1) := by decide +kernel
theorem dX12_puts_56 : decode cX12_puts 56 = .ok (.istore_n 3, 1) := by decide +kernel
theorem dX12_puts_57 : decode cX12_puts 57 = .ok (.aload_n 0, 1) := by decide +kernel
theorem dX12_puts_58 : decode cX12_puts 58 = .ok (.getfield 63, 3) := by decide +kernel
theorem dX12_puts_61 : decode cX12_puts 61 = .ok (.iload_n 3, 1) := by decide +kernel
theorem dX12_puts_62 : decode cX12_puts 62 = .ok (.iaload, 1) := by decide +kernel
theorem dX12_puts_63 : decode cX12_puts 63 = .ok (.istore 4, 2) := by decide +kernel
theorem dX12_puts_65 : decode cX12_puts 65 = .ok (.iload_n 2, 1) := by decide +kernel
theorem dX12_puts_66 : decode cX12_puts 66 = .ok (.i2l, 1) := by decide +kernel
theorem dX12_puts_67 : decode cX12_puts 67 = .ok (.lconst 0, 1) := by decide +kernel
theorem dX12_puts_68 : decode cX12_puts 68 = .ok (.aload_n 0, 1) := by decide +kernel
theorem dX12_puts_69 : decode cX12_puts 69 = .ok (.getfield 67, 3) := by decide +kernel
theorem dX12_puts_72 : decode cX12_puts 72 = .ok (.iload_n 3, 1) := by decide +kernel
theorem dX12_puts_73 : decode cX12_puts 73 = .ok (.iaload, 1) := by decide +kernel
theorem dX12_puts_74 : decode cX12_puts 74 = .ok (.iconst 1, 1) := by decide +kernel
theorem dX12_puts_75 : decode cX12_puts 75 = .ok (.isub, 1) := by decide +kernel
theorem dX12_puts_76 : decode cX12_puts 76 = .ok (.i2l, 1) := by decide +kernel
theorem dX12_puts_77 : decode cX12_puts 77 = .ok (.invokestatic 15, 3) := by decide +kernel
theorem dX12_puts_80 : decode cX12_puts 80 = .ok (.ifCond .ne 6, 3) := by decide +kernel
theorem dX12_puts_83 : decode cX12_puts 83 = .ok (.bipush (-13), 2) := by decide +kernel
theorem dX12_puts_85 : decode cX12_puts 85 = .ok (.ireturn, 1) := by decide +kernel
theorem dX12_puts_86 : decode cX12_puts 86 = .ok (.iload 4, 2) := by decide +kernel
theorem dX12_puts_88 : decode cX12_puts 88 = .ok (.bipush 8, 2) := by decide +kernel
theorem dX12_puts_90 : decode cX12_puts 90 = .ok (.if_icmp .ge 15, 3) := by decide +kernel
theorem dX12_puts_93 : decode cX12_puts 93 = .ok (.aload_n 0, 1) := by decide +kernel
theorem dX12_puts_94 : decode cX12_puts 94 = .ok (.getfield 3, 3) := by decide +kernel
theorem dX12_puts_97 : decode cX12_puts 97 = .ok (.iload 4, 2) := by decide +kernel
theorem dX12_puts_99 : decode cX12_puts 99 = .ok (.invokestatic 213, 3) := by decide +kernel
theorem dX12_puts_102 : decode cX12_puts 102 = .ok (.ifCond .eq 28, 3) := by decide +kernel
theorem dX12_puts_105 : decode cX12_puts 105 = .ok (.iload 4, 2) := by decide +kernel
theorem dX12_puts_107 : decode cX12_puts 107 = .ok (.bipush 9, 2) := by decide +kernel
theorem dX12_puts_109 : decode cX12_puts 109 = .ok (.if_icmp .ne 24, 3) := by decide +kernel
theorem dX12_puts_112 : decode cX12_puts 112 = .ok (.aload_n 0, 1) := by decide +kernel
theorem dX12_puts_113 : decode cX12_puts 113 = .ok (.getfield 3, 3) := by decide +kernel
theorem dX12_puts_116 : decode cX12_puts 116 = .ok (.bipush 9, 2) := by decide +kernel
theorem dX12_puts_118 : decode cX12_puts 118 = .ok (.if_icmp .eq 15, 3) := by decide +kernel
theorem dX12_puts_121 : decode cX12_puts 121 = .ok (.aload_n 0, 1) := by decide +kernel
theorem dX12_puts_122 : decode cX12_puts 122 = .ok (.getfield 3, 3) := by decide +kernel
theorem dX12_puts_125 : decode cX12_puts 125 = .ok (.bipush 8, 2) := by decide +kernel
theorem dX12_puts_127 : decode cX12_puts 127 = .ok (.if_icmp .eq 6, 3) := by decide +kernel
theorem dX12_puts_130 : decode cX12_puts 130 = .ok (.bipush (-12), 2) := by decide +kernel
theorem dX12_puts_132 : decode cX12_puts 132 = .ok (.ireturn, 1) := by decide +kernel
theorem dX12_puts_133 : decode cX12_puts 133 = .ok (.bipush 32, 2) := by decide +kernel
theorem dX12_puts_135 : decode cX12_puts 135 = .ok (.iload_n 3, 1) := by decide +kernel
theorem dX12_puts_136 : decode cX12_puts 136 = .ok (.imul, 1) := by decide +kernel
theorem dX12_puts_137 : decode cX12_puts 137 = .ok (.iload_n 2, 1) := by decide +kernel
theorem dX12_puts_138 : decode cX12_puts 138 = .ok (.iadd, 1) := by decide +kernel
theorem dX12_puts_139 : decode cX12_puts 139 = .ok (.istore 5, 2) := by decide +kernel
theorem dX12_puts_141 : decode cX12_puts 141 = .ok (.aload_n 0, 1) := by decide +kernel
theorem dX12_puts_142 : decode cX12_puts 142 = .ok (.iload 5, 2) := by decide +kernel
theorem dX12_puts_144 : decode cX12_puts 144 = .ok (.invokevirtual 221, 3) := by decide +kernel
theorem dX12_puts_147 : decode cX12_puts 147 = .ok (.aload_n 0, 1) := by decide +kernel
theorem dX12_puts_148 : decode cX12_puts 148 = .ok (.getfield 76, 3) := by decide +kernel
theorem dX12_puts_151 : decode cX12_puts 151 = .ok (.iload 5, 2) := by decide +kernel
theorem dX12_puts_153 : decode cX12_puts 153 = .ok (.iload 4, 2) := by decide +kernel
theorem dX12_puts_155 : decode cX12_puts 155 = .ok (.bipush 8, 2) := by decide +kernel
theorem dX12_puts_157 : decode cX12_puts 157 = .ok (.if_icmp .ge 19, 3) := by decide +kernel
theorem dX12_puts_160 : decode cX12_puts 160 = .ok (.aload_n 0, 1) := by decide +kernel
theorem dX12_puts_161 : decode cX12_puts 161 = .ok (.getfield 3, 3) := by decide +kernel
theorem dX12_puts_164 : decode cX12_puts 164 = .ok (.aload_n 0, 1) := by decide +kernel
theorem dX12_puts_165 : decode cX12_puts 165 = .ok (.getfield 9, 3) := by decide +kernel
theorem dX12_puts_168 : decode cX12_puts 168 = .ok (.iload 4, 2) := by decide +kernel
theorem dX12_puts_170 : decode cX12_puts 170 = .ok (.invokestatic 217, 3) := by decide +kernel
theorem dX12_puts_173 : decode cX12_puts 173 = .ok (.goto 7, 3) := by decide +kernel
theorem dX12_puts_176 : decode cX12_puts 176 = .ok (.aload_n 0, 1) := by decide +kernel
theorem dX12_puts_177 : decode cX12_puts 177 = .ok (.getfield 9, 3) := by decide +kernel
theorem dX12_puts_180 : decode cX12_puts 180 = .ok (.lastore, 1) := by decide +kernel
theorem dX12_puts_181 : decode cX12_puts 181 = .ok (.aload_n 0, 1) := by decide +kernel
theorem dX12_puts_182 : decode cX12_puts 182 = .ok (.getfield 73, 3) := by decide +kernel
theorem dX12_puts_185 : decode cX12_puts 185 = .ok (.iload 5, 2) := by decide +kernel
theorem dX12_puts_187 : decode cX12_puts 187 = .ok (.iload 4, 2) := by decide +kernel
theorem dX12_puts_189 : decode cX12_puts 189 = .ok (.bipush 8, 2) := by decide +kernel
theorem dX12_puts_191 : decode cX12_puts 191 = .ok (.if_icmp .ge 8, 3) := by decide +kernel
theorem dX12_puts_194 : decode cX12_puts 194 = .ok (.iload 4, 2) := by decide +kernel
theorem dX12_puts_196 : decode cX12_puts 196 = .ok (.goto 7, 3) := by decide +kernel
theorem dX12_puts_199 : decode cX12_puts 199 = .ok (.aload_n 0, 1) := by decide +kernel
theorem dX12_puts_200 : decode cX12_puts 200 = .ok (.getfield 3, 3) := by decide +kernel
theorem dX12_puts_203 : decode cX12_puts 203 = .ok (.iastore, 1) := by decide +kernel
theorem dX12_puts_204 : decode cX12_puts 204 = .ok (.iconst 0, 1) := by decide +kernel
theorem dX12_puts_205 : decode cX12_puts 205 = .ok (.ireturn, 1) := by decide +kernel
theorem dX12_putsBy_0 : decode cX12_putsBy 0 = .ok (.iload_n 3, 1) := by decide +kernel
theorem dX12_putsBy_1 : decode cX12_putsBy 1 = .ok (.bipush 8, 2) := by decide +kernel
theorem dX12_putsBy_3 : decode cX12_putsBy 3 = .ok (.if_icmp .eq 30, 3) := by decide +kernel
theorem dX12_putsBy_6 : decode cX12_putsBy 6 = .ok (.aload_n 0, 1) := by decide +kernel
theorem dX12_putsBy_7 : decode cX12_putsBy 7 = .ok (.iload_n 1, 1) := by decide +kernel
theorem dX12_putsBy_8 : decode cX12_putsBy 8 = .ok (.invokevirtual 199, 3) := by decide +kernel
theorem dX12_putsBy_11 : decode cX12_putsBy 11 = .ok (.ifCond .eq 22, 3) := by decide +kernel
theorem dX12_putsBy_14 : decode cX12_putsBy 14 = .ok (.aload_n 0, 1) := by decide +kernel
theorem dX12_putsBy_15 : decode cX12_putsBy 15 = .ok (.getfield 63, 3) := by decide +kernel
theorem dX12_putsBy_18 : decode cX12_putsBy 18 = .ok (.aload_n 0, 1) := by decide +kernel
theorem dX12_putsBy_19 : decode cX12_putsBy 19 = .ok (.getfield 80, 3) := by decide +kernel
theorem dX12_putsBy_22 : decode cX12_putsBy 22 = .ok (.iload_n 1, 1) := by decide +kernel
theorem dX12_putsBy_23 : decode cX12_putsBy 23 = .ok (.iaload, 1) := by decide +kernel
theorem dX12_putsBy_24 : decode cX12_putsBy 24 = .ok (.iaload, 1) := by decide +kernel
theorem dX12_putsBy_25 : decode cX12_putsBy 25 = .ok (.bipush 8, 2) := by decide +kernel
theorem dX12_putsBy_27 : decode cX12_putsBy 27 = .ok (.if_icmp .lt 6, 3) := by decide +kernel
theorem dX12_putsBy_30 : decode cX12_putsBy 30 = .ok (.bipush (-12), 2) := by decide +kernel
theorem dX12_putsBy_32 : decode cX12_putsBy 32 = .ok (.ireturn, 1) := by decide +kernel
theorem dX12_putsBy_33 : decode cX12_putsBy 33 = .ok (.aload_n 0, 1) := by decide +kernel
theorem dX12_putsBy_34 : decode cX12_putsBy 34 = .ok (.iload_n 1, 1) := by decide +kernel
theorem dX12_putsBy_35 : decode cX12_putsBy 35 = .ok (.iload_n 2, 1) := by decide +kernel
theorem dX12_putsBy_36 : decode cX12_putsBy 36 = .ok (.invokevirtual 224, 3) := by decide +kernel
theorem dX12_putsBy_39 : decode cX12_putsBy 39 = .ok (.ireturn, 1) := by decide +kernel
theorem dX12_counted_0 : decode cX12_counted 0 = .ok (.iload_n 1, 1) := by decide +kernel
theorem dX12_counted_1 : decode cX12_counted 1 = .ok (.ifCond .eq 18, 3) := by decide +kernel
theorem dX12_counted_4 : decode cX12_counted 4 = .ok (.aload_n 0, 1) := by decide +kernel
theorem dX12_counted_5 : decode cX12_counted 5 = .ok (.getfield 86, 3) := by decide +kernel
theorem dX12_counted_8 : decode cX12_counted 8 = .ok (.bipush (-11), 2) := by decide +kernel
theorem dX12_counted_10 : decode cX12_counted 10 = .ok (.iload_n 1, 1) := by decide +kernel
theorem dX12_counted_11 : decode cX12_counted 11 = .ok (.isub, 1) := by decide +kernel
theorem dX12_counted_12 : decode cX12_counted 12 = .ok (.dup2, 1) := by decide +kernel
theorem dX12_counted_13 : decode cX12_counted 13 = .ok (.iaload, 1) := by decide +kernel
theorem dX12_counted_14 : decode cX12_counted 14 = .ok (.iconst 1, 1) := by decide +kernel
theorem dX12_counted_15 : decode cX12_counted 15 = .ok (.iadd, 1) := by decide +kernel
theorem dX12_counted_16 : decode cX12_counted 16 = .ok (.iastore, 1) := by decide +kernel
theorem dX12_counted_17 : decode cX12_counted 17 = .ok (.iload_n 1, 1) := by decide +kernel
theorem dX12_counted_18 : decode cX12_counted 18 = .ok (.ireturn, 1) := by decide +kernel
theorem dX12_counted_19 : decode cX12_counted 19 = .ok (.iconst 1, 1) := by decide +kernel
theorem dX12_counted_20 : decode cX12_counted 20 = .ok (.ireturn, 1) := by decide +kernel
theorem dX12_latches_0 : decode cX12_latches 0 = .ok (.iload_n 1, 1) := by decide +kernel
theorem dX12_latches_1 : decode cX12_latches 1 = .ok (.ifCond .ne 19, 3) := by decide +kernel
theorem dX12_latches_4 : decode cX12_latches 4 = .ok (.aload_n 0, 1) := by decide +kernel
theorem dX12_latches_5 : decode cX12_latches 5 = .ok (.aload_n 0, 1) := by decide +kernel
theorem dX12_latches_6 : decode cX12_latches 6 = .ok (.getfield 3, 3) := by decide +kernel
theorem dX12_latches_9 : decode cX12_latches 9 = .ok (.putfield 179, 3) := by decide +kernel
theorem dX12_latches_12 : decode cX12_latches 12 = .ok (.aload_n 0, 1) := by decide +kernel
theorem dX12_latches_13 : decode cX12_latches 13 = .ok (.aload_n 0, 1) := by decide +kernel
theorem dX12_latches_14 : decode cX12_latches 14 = .ok (.getfield 9, 3) := by decide +kernel
theorem dX12_latches_17 : decode cX12_latches 17 = .ok (.putfield 228, 3) := by decide +kernel
theorem dX12_latches_20 : decode cX12_latches 20 = .ok (.aload_n 0, 1) := by decide +kernel
theorem dX12_latches_21 : decode cX12_latches 21 = .ok (.iload_n 1, 1) := by decide +kernel
theorem dX12_latches_22 : decode cX12_latches 22 = .ok (.invokevirtual 231, 3) := by decide +kernel
theorem dX12_latches_25 : decode cX12_latches 25 = .ok (.ireturn, 1) := by decide +kernel
theorem dX12_read_0 : decode cX12_read 0 = .ok (.iload_n 1, 1) := by decide +kernel
theorem dX12_read_1 : decode cX12_read 1 = .ok (.invokestatic 190, 3) := by decide +kernel
theorem dX12_read_4 : decode cX12_read 4 = .ok (.ifCond .eq 15, 3) := by decide +kernel
theorem dX12_read_7 : decode cX12_read 7 = .ok (.iload_n 3, 1) := by decide +kernel
theorem dX12_read_8 : decode cX12_read 8 = .ok (.i2l, 1) := by decide +kernel
theorem dX12_read_9 : decode cX12_read 9 = .ok (.lconst 0, 1) := by decide +kernel
theorem dX12_read_10 : decode cX12_read 10 = .ok (.ldc2_w 234, 3) := by decide +kernel
theorem dX12_read_13 : decode cX12_read 13 = .ok (.invokestatic 15, 3) := by decide +kernel
theorem dX12_read_16 : decode cX12_read 16 = .ok (.ifCond .ne 5, 3) := by decide +kernel
theorem dX12_read_19 : decode cX12_read 19 = .ok (.iconst (-1), 1) := by decide +kernel
theorem dX12_read_20 : decode cX12_read 20 = .ok (.ireturn, 1) := by decide +kernel
theorem dX12_read_21 : decode cX12_read 21 = .ok (.aload_n 0, 1) := by decide +kernel
theorem dX12_read_22 : decode cX12_read 22 = .ok (.aload_n 0, 1) := by decide +kernel
theorem dX12_read_23 : decode cX12_read 23 = .ok (.iload_n 1, 1) := by decide +kernel
theorem dX12_read_24 : decode cX12_read 24 = .ok (.iload_n 2, 1) := by decide +kernel
theorem dX12_read_25 : decode cX12_read 25 = .ok (.iload_n 3, 1) := by decide +kernel
theorem dX12_read_26 : decode cX12_read 26 = .ok (.invokevirtual 236, 3) := by decide +kernel
theorem dX12_read_29 : decode cX12_read 29 = .ok (.invokevirtual 239, 3) := by decide +kernel
theorem dX12_read_32 : decode cX12_read 32 = .ok (.ireturn, 1) := by decide +kernel
theorem dX12_latch_0 : decode cX12_latch 0 = .ok (.iload_n 1, 1) := by decide +kernel
theorem dX12_latch_1 : decode cX12_latch 1 = .ok (.tableswitch 65 0 2 #[27, 33, 38], 27) := by decide +kernel
theorem dX12_latch_28 : decode cX12_latch 28 = .ok (.aload_n 0, 1) := by decide +kernel
theorem dX12_latch_29 : decode cX12_latch 29 = .ok (.getfield 179, 3) := by decide +kernel
theorem dX12_latch_32 : decode cX12_latch 32 = .ok (.i2l, 1) := by decide +kernel
theorem dX12_latch_33 : decode cX12_latch 33 = .ok (.lreturn, 1) := by decide +kernel
theorem dX12_latch_34 : decode cX12_latch 34 = .ok (.aload_n 0, 1) := by decide +kernel
theorem dX12_latch_35 : decode cX12_latch 35 = .ok (.getfield 228, 3) := by decide +kernel
theorem dX12_latch_38 : decode cX12_latch 38 = .ok (.lreturn, 1) := by decide +kernel
theorem dX12_latch_39 : decode cX12_latch 39 = .ok (.aload_n 0, 1) := by decide +kernel
theorem dX12_latch_40 : decode cX12_latch 40 = .ok (.getfield 179, 3) := by decide +kernel
theorem dX12_latch_43 : decode cX12_latch 43 = .ok (.bipush 8, 2) := by decide +kernel
theorem dX12_latch_45 : decode cX12_latch 45 = .ok (.if_icmp .ge 17, 3) := by decide +kernel
theorem dX12_latch_48 : decode cX12_latch 48 = .ok (.aload_n 0, 1) := by decide +kernel
theorem dX12_latch_49 : decode cX12_latch 49 = .ok (.getfield 179, 3) := by decide +kernel
theorem dX12_latch_52 : decode cX12_latch 52 = .ok (.aload_n 0, 1) := by decide +kernel
theorem dX12_latch_53 : decode cX12_latch 53 = .ok (.getfield 228, 3) := by decide +kernel
theorem dX12_latch_56 : decode cX12_latch 56 = .ok (.invokestatic 242, 3) := by decide +kernel
theorem dX12_latch_59 : decode cX12_latch 59 = .ok (.goto 6, 3) := by decide +kernel
theorem dX12_latch_62 : decode cX12_latch 62 = .ok (.ldc2_w 246, 3) := by decide +kernel
theorem dX12_latch_65 : decode cX12_latch 65 = .ok (.lreturn, 1) := by decide +kernel
theorem dX12_latch_66 : decode cX12_latch 66 = .ok (.ldc2_w 246, 3) := by decide +kernel
theorem dX12_latch_69 : decode cX12_latch 69 = .ok (.lreturn, 1) := by decide +kernel
theorem dX12_writes_0 : decode cX12_writes 0 = .ok (.aload_n 0, 1) := by decide +kernel
theorem dX12_writes_1 : decode cX12_writes 1 = .ok (.invokevirtual 248, 3) := by decide +kernel
theorem dX12_writes_4 : decode cX12_writes 4 = .ok (.aload_n 0, 1) := by decide +kernel
theorem dX12_writes_5 : decode cX12_writes 5 = .ok (.iload_n 1, 1) := by decide +kernel
theorem dX12_writes_6 : decode cX12_writes 6 = .ok (.iload_n 2, 1) := by decide +kernel
theorem dX12_writes_7 : decode cX12_writes 7 = .ok (.iload_n 3, 1) := by decide +kernel
theorem dX12_writes_8 : decode cX12_writes 8 = .ok (.invokevirtual 251, 3) := by decide +kernel
theorem dX12_writes_11 : decode cX12_writes 11 = .ok (.istore 4, 2) := by decide +kernel
theorem dX12_writes_13 : decode cX12_writes 13 = .ok (.iload 4, 2) := by decide +kernel
theorem dX12_writes_15 : decode cX12_writes 15 = .ok (.ifCond .ne 7, 3) := by decide +kernel
theorem dX12_writes_18 : decode cX12_writes 18 = .ok (.aload_n 0, 1) := by decide +kernel
theorem dX12_writes_19 : decode cX12_writes 19 = .ok (.invokevirtual 254, 3) := by decide +kernel
theorem dX12_writes_22 : decode cX12_writes 22 = .ok (.aload_n 0, 1) := by decide +kernel
theorem dX12_writes_23 : decode cX12_writes 23 = .ok (.iload 4, 2) := by decide +kernel
theorem dX12_writes_25 : decode cX12_writes 25 = .ok (.invokevirtual 231, 3) := by decide +kernel
theorem dX12_writes_28 : decode cX12_writes 28 = .ok (.ireturn, 1) := by decide +kernel
theorem dX12_write_0 : decode cX12_write 0 = .ok (.iload_n 1, 1) := by decide +kernel
theorem dX12_write_1 : decode cX12_write 1 = .ok (.invokestatic 190, 3) := by decide +kernel
theorem dX12_write_4 : decode cX12_write 4 = .ok (.ifCond .eq 15, 3) := by decide +kernel
theorem dX12_write_7 : decode cX12_write 7 = .ok (.iload_n 3, 1) := by decide +kernel
theorem dX12_write_8 : decode cX12_write 8 = .ok (.i2l, 1) := by decide +kernel
theorem dX12_write_9 : decode cX12_write 9 = .ok (.lconst 0, 1) := by decide +kernel
theorem dX12_write_10 : decode cX12_write 10 = .ok (.ldc2_w 35, 3) := by decide +kernel
theorem dX12_write_13 : decode cX12_write 13 = .ok (.invokestatic 15, 3) := by decide +kernel
theorem dX12_write_16 : decode cX12_write 16 = .ok (.ifCond .ne 5, 3) := by decide +kernel
theorem dX12_write_19 : decode cX12_write 19 = .ok (.iconst (-1), 1) := by decide +kernel
theorem dX12_write_20 : decode cX12_write 20 = .ok (.ireturn, 1) := by decide +kernel
theorem dX12_write_21 : decode cX12_write 21 = .ok (.aload_n 0, 1) := by decide +kernel
theorem dX12_write_22 : decode cX12_write 22 = .ok (.iload_n 3, 1) := by decide +kernel
theorem dX12_write_23 : decode cX12_write 23 = .ok (.lload 4, 2) := by decide +kernel
theorem dX12_write_25 : decode cX12_write 25 = .ok (.invokevirtual 257, 3) := by decide +kernel
theorem dX12_write_28 : decode cX12_write 28 = .ok (.aload_n 0, 1) := by decide +kernel
theorem dX12_write_29 : decode cX12_write 29 = .ok (.iload_n 1, 1) := by decide +kernel
theorem dX12_write_30 : decode cX12_write 30 = .ok (.iload_n 2, 1) := by decide +kernel
theorem dX12_write_31 : decode cX12_write 31 = .ok (.iload_n 3, 1) := by decide +kernel
theorem dX12_write_32 : decode cX12_write 32 = .ok (.invokevirtual 260, 3) := by decide +kernel
theorem dX12_write_35 : decode cX12_write 35 = .ok (.ireturn, 1) := by decide +kernel
theorem dX12_real__0 : decode cX12_real_ 0 = .ok (.iload_n 1, 1) := by decide +kernel
theorem dX12_real__1 : decode cX12_real_ 1 = .ok (.invokestatic 190, 3) := by decide +kernel
theorem dX12_real__4 : decode cX12_real_ 4 = .ok (.ifCond .eq 17, 3) := by decide +kernel
theorem dX12_real__7 : decode cX12_real_ 7 = .ok (.iload_n 3, 1) := by decide +kernel
theorem dX12_real__8 : decode cX12_real_ 8 = .ok (.i2l, 1) := by decide +kernel
theorem dX12_real__9 : decode cX12_real_ 9 = .ok (.ldc2_w 43, 3) := by decide +kernel
theorem dX12_real__12 : decode cX12_real_ 12 = .ok (.ldc2_w 35, 3) := by decide +kernel
theorem dX12_real__15 : decode cX12_real_ 15 = .ok (.invokestatic 15, 3) := by decide +kernel
theorem dX12_real__18 : decode cX12_real_ 18 = .ok (.ifCond .ne 5, 3) := by decide +kernel
theorem dX12_real__21 : decode cX12_real_ 21 = .ok (.iconst (-1), 1) := by decide +kernel
theorem dX12_real__22 : decode cX12_real_ 22 = .ok (.ireturn, 1) := by decide +kernel
theorem dX12_real__23 : decode cX12_real_ 23 = .ok (.iload 5, 2) := by decide +kernel
theorem dX12_real__25 : decode cX12_real_ 25 = .ok (.ifCond .ne 6, 3) := by decide +kernel
theorem dX12_real__28 : decode cX12_real_ 28 = .ok (.bipush (-2), 2) := by decide +kernel
theorem dX12_real__30 : decode cX12_real_ 30 = .ok (.ireturn, 1) := by decide +kernel
theorem dX12_real__31 : decode cX12_real_ 31 = .ok (.iload_n 3, 1) := by decide +kernel
theorem dX12_real__32 : decode cX12_real_ 32 = .ok (.bipush 6, 2) := by decide +kernel
theorem dX12_real__34 : decode cX12_real_ 34 = .ok (.if_icmp .ne 23, 3) := by decide +kernel
theorem dX12_real__37 : decode cX12_real_ 37 = .ok (.aload_n 0, 1) := by decide +kernel
theorem dX12_real__38 : decode cX12_real_ 38 = .ok (.bipush 6, 2) := by decide +kernel
theorem dX12_real__40 : decode cX12_real_ 40 = .ok (.iload 4, 2) := by decide +kernel
theorem dX12_real__42 : decode cX12_real_ 42 = .ok (.i2f, 1) := by decide +kernel
theorem dX12_real__43 : decode cX12_real_ 43 = .ok (.iload 5, 2) := by decide +kernel
theorem dX12_real__45 : decode cX12_real_ 45 = .ok (.i2f, 1) := by decide +kernel
theorem dX12_real__46 : decode cX12_real_ 46 = .ok (.fdiv, 1) := by decide +kernel
theorem dX12_real__47 : decode cX12_real_ 47 = .ok (.invokestatic 23, 3) := by decide +kernel
theorem dX12_real__50 : decode cX12_real_ 50 = .ok (.i2l, 1) := by decide +kernel
theorem dX12_real__51 : decode cX12_real_ 51 = .ok (.invokevirtual 19, 3) := by decide +kernel
theorem dX12_real__54 : decode cX12_real_ 54 = .ok (.goto 19, 3) := by decide +kernel
theorem dX12_real__57 : decode cX12_real_ 57 = .ok (.aload_n 0, 1) := by decide +kernel
theorem dX12_real__58 : decode cX12_real_ 58 = .ok (.bipush 7, 2) := by decide +kernel
theorem dX12_real__60 : decode cX12_real_ 60 = .ok (.iload 4, 2) := by decide +kernel
theorem dX12_real__62 : decode cX12_real_ 62 = .ok (.i2d, 1) := by decide +kernel
theorem dX12_real__63 : decode cX12_real_ 63 = .ok (.iload 5, 2) := by decide +kernel
theorem dX12_real__65 : decode cX12_real_ 65 = .ok (.i2d, 1) := by decide +kernel
theorem dX12_real__66 : decode cX12_real_ 66 = .ok (.ddiv, 1) := by decide +kernel
theorem dX12_real__67 : decode cX12_real_ 67 = .ok (.invokestatic 29, 3) := by decide +kernel
theorem dX12_real__70 : decode cX12_real_ 70 = .ok (.invokevirtual 19, 3) := by decide +kernel
theorem dX12_real__73 : decode cX12_real_ 73 = .ok (.aload_n 0, 1) := by decide +kernel
theorem dX12_real__74 : decode cX12_real_ 74 = .ok (.iload_n 1, 1) := by decide +kernel
theorem dX12_real__75 : decode cX12_real_ 75 = .ok (.iload_n 2, 1) := by decide +kernel
theorem dX12_real__76 : decode cX12_real_ 76 = .ok (.iload_n 3, 1) := by decide +kernel
theorem dX12_real__77 : decode cX12_real_ 77 = .ok (.invokevirtual 260, 3) := by decide +kernel
theorem dX12_real__80 : decode cX12_real_ 80 = .ok (.ireturn, 1) := by decide +kernel
theorem dX12_box_0 : decode cX12_box 0 = .ok (.iload_n 1, 1) := by decide +kernel
theorem dX12_box_1 : decode cX12_box 1 = .ok (.invokestatic 190, 3) := by decide +kernel
theorem dX12_box_4 : decode cX12_box 4 = .ok (.ifCond .eq 15, 3) := by decide +kernel
theorem dX12_box_7 : decode cX12_box 7 = .ok (.iload_n 3, 1) := by decide +kernel
theorem dX12_box_8 : decode cX12_box 8 = .ok (.i2l, 1) := by decide +kernel
theorem dX12_box_9 : decode cX12_box 9 = .ok (.lconst 0, 1) := by decide +kernel
theorem dX12_box_10 : decode cX12_box 10 = .ok (.ldc2_w 263, 3) := by decide +kernel
theorem dX12_box_13 : decode cX12_box 13 = .ok (.invokestatic 15, 3) := by decide +kernel
theorem dX12_box_16 : decode cX12_box 16 = .ok (.ifCond .ne 5, 3) := by decide +kernel
theorem dX12_box_19 : decode cX12_box 19 = .ok (.iconst (-1), 1) := by decide +kernel
theorem dX12_box_20 : decode cX12_box 20 = .ok (.ireturn, 1) := by decide +kernel
theorem dX12_box_21 : decode cX12_box 21 = .ok (.iload_n 3, 1) := by decide +kernel
theorem dX12_box_22 : decode cX12_box 22 = .ok (.lload 4, 2) := by decide +kernel
theorem dX12_box_24 : decode cX12_box 24 = .ok (.invokestatic 265, 3) := by decide +kernel
theorem dX12_box_27 : decode cX12_box 27 = .ok (.ifCond .eq 6, 3) := by decide +kernel
theorem dX12_box_30 : decode cX12_box 30 = .ok (.bipush (-2), 2) := by decide +kernel
theorem dX12_box_32 : decode cX12_box 32 = .ok (.ireturn, 1) := by decide +kernel
theorem dX12_box_33 : decode cX12_box 33 = .ok (.aload_n 0, 1) := by decide +kernel
theorem dX12_box_34 : decode cX12_box 34 = .ok (.iload_n 3, 1) := by decide +kernel
theorem dX12_box_35 : decode cX12_box 35 = .ok (.lload 4, 2) := by decide +kernel
theorem dX12_box_37 : decode cX12_box 37 = .ok (.invokevirtual 257, 3) := by decide +kernel
theorem dX12_box_40 : decode cX12_box 40 = .ok (.aload_n 0, 1) := by decide +kernel
theorem dX12_box_41 : decode cX12_box 41 = .ok (.iload_n 1, 1) := by decide +kernel
theorem dX12_box_42 : decode cX12_box 42 = .ok (.iload_n 2, 1) := by decide +kernel
theorem dX12_box_43 : decode cX12_box 43 = .ok (.bipush 8, 2) := by decide +kernel
theorem dX12_box_45 : decode cX12_box 45 = .ok (.invokevirtual 260, 3) := by decide +kernel
theorem dX12_box_48 : decode cX12_box 48 = .ok (.ireturn, 1) := by decide +kernel
theorem dX12_isWindow_0 : decode cX12_isWindow 0 = .ok (.iload_n 0, 1) := by decide +kernel

theorem dX12_copiesOneByOne_78 : decode cX12_copiesOneByOne 78 = .ok (.invokevirtual 254, 3) := by decide +kernel
theorem dX12_copiesOneByOne_81 : decode cX12_copiesOneByOne 81 = .ok (.aload_n 0, 1) := by decide +kernel
theorem dX12_copiesOneByOne_82 : decode cX12_copiesOneByOne 82 = .ok (.iload_n 1, 1) := by decide +kernel
theorem dX12_copiesOneByOne_83 : decode cX12_copiesOneByOne 83 = .ok (.iconst 3, 1) := by decide +kernel
theorem dX12_copiesOneByOne_84 : decode cX12_copiesOneByOne 84 = .ok (.invokevirtual 280, 3) := by decide +kernel
theorem dX12_copiesOneByOne_87 : decode cX12_copiesOneByOne 87 = .ok (.ireturn, 1) := by decide +kernel
theorem dX12_copiesAll_0 : decode cX12_copiesAll 0 = .ok (.aload_n 0, 1) := by decide +kernel
theorem dX12_copiesAll_1 : decode cX12_copiesAll 1 = .ok (.iload_n 1, 1) := by decide +kernel
theorem dX12_copiesAll_2 : decode cX12_copiesAll 2 = .ok (.iconst 4, 1) := by decide +kernel
theorem dX12_copiesAll_3 : decode cX12_copiesAll 3 = .ok (.invokevirtual 280, 3) := by decide +kernel
theorem dX12_copiesAll_6 : decode cX12_copiesAll 6 = .ok (.istore_n 3, 1) := by decide +kernel
theorem dX12_copiesAll_7 : decode cX12_copiesAll 7 = .ok (.iconst 0, 1) := by decide +kernel
theorem dX12_copiesAll_8 : decode cX12_copiesAll 8 = .ok (.istore 4, 2) := by decide +kernel
theorem dX12_copiesAll_10 : decode cX12_copiesAll 10 = .ok (.iload 4, 2) := by decide +kernel
theorem dX12_copiesAll_12 : decode cX12_copiesAll 12 = .ok (.aload_n 0, 1) := by decide +kernel
theorem dX12_copiesAll_13 : decode cX12_copiesAll 13 = .ok (.iload_n 1, 1) := by decide +kernel
theorem dX12_copiesAll_14 : decode cX12_copiesAll 14 = .ok (.iconst 3, 1) := by decide +kernel
theorem dX12_copiesAll_15 : decode cX12_copiesAll 15 = .ok (.invokevirtual 280, 3) := by decide +kernel
theorem dX12_copiesAll_18 : decode cX12_copiesAll 18 = .ok (.if_icmp .ge 56, 3) := by decide +kernel
theorem dX12_copiesAll_21 : decode cX12_copiesAll 21 = .ok (.aload_n 0, 1) := by decide +kernel
theorem dX12_copiesAll_22 : decode cX12_copiesAll 22 = .ok (.iload_n 1, 1) := by decide +kernel
theorem dX12_copiesAll_23 : decode cX12_copiesAll 23 = .ok (.iload 4, 2) := by decide +kernel
theorem dX12_copiesAll_25 : decode cX12_copiesAll 25 = .ok (.iload_n 3, 1) := by decide +kernel
theorem dX12_copiesAll_26 : decode cX12_copiesAll 26 = .ok (.invokevirtual 286, 3) := by decide +kernel
theorem dX12_copiesAll_29 : decode cX12_copiesAll 29 = .ok (.istore 5, 2) := by decide +kernel
theorem dX12_copiesAll_31 : decode cX12_copiesAll 31 = .ok (.iload 5, 2) := by decide +kernel
theorem dX12_copiesAll_33 : decode cX12_copiesAll 33 = .ok (.ifCond .eq 13, 3) := by decide +kernel
theorem dX12_copiesAll_36 : decode cX12_copiesAll 36 = .ok (.aload_n 0, 1) := by decide +kernel
theorem dX12_copiesAll_37 : decode cX12_copiesAll 37 = .ok (.iload 4, 2) := by decide +kernel
theorem dX12_copiesAll_39 : decode cX12_copiesAll 39 = .ok (.iconst 0, 1) := by decide +kernel
theorem dX12_copiesAll_40 : decode cX12_copiesAll 40 = .ok (.iload 5, 2) := by decide +kernel
theorem dX12_copiesAll_42 : decode cX12_copiesAll 42 = .ok (.invokevirtual 325, 3) := by decide +kernel
theorem dX12_copiesAll_45 : decode cX12_copiesAll 45 = .ok (.ireturn, 1) := by decide +kernel
theorem dX12_copiesAll_46 : decode cX12_copiesAll 46 = .ok (.aload_n 0, 1) := by decide +kernel
theorem dX12_copiesAll_47 : decode cX12_copiesAll 47 = .ok (.getfield 122, 3) := by decide +kernel
theorem dX12_copiesAll_50 : decode cX12_copiesAll 50 = .ok (.iload 4, 2) := by decide +kernel
theorem dX12_copiesAll_52 : decode cX12_copiesAll 52 = .ok (.aload_n 0, 1) := by decide +kernel
theorem dX12_copiesAll_53 : decode cX12_copiesAll 53 = .ok (.getfield 3, 3) := by decide +kernel
theorem dX12_copiesAll_56 : decode cX12_copiesAll 56 = .ok (.iastore, 1) := by decide +kernel
theorem dX12_copiesAll_57 : decode cX12_copiesAll 57 = .ok (.aload_n 0, 1) := by decide +kernel
theorem dX12_copiesAll_58 : decode cX12_copiesAll 58 = .ok (.getfield 125, 3) := by decide +kernel
theorem dX12_copiesAll_61 : decode cX12_copiesAll 61 = .ok (.iload 4, 2) := by decide +kernel
theorem dX12_copiesAll_63 : decode cX12_copiesAll 63 = .ok (.aload_n 0, 1) := by decide +kernel
theorem dX12_copiesAll_64 : decode cX12_copiesAll 64 = .ok (.getfield 9, 3) := by decide +kernel
theorem dX12_copiesAll_67 : decode cX12_copiesAll 67 = .ok (.lastore, 1) := by decide +kernel
theorem dX12_copiesAll_68 : decode cX12_copiesAll 68 = .ok (.iinc 4 1, 3) := by decide +kernel
theorem dX12_copiesAll_71 : decode cX12_copiesAll 71 = .ok (.goto (-61), 3) := by decide +kernel
theorem dX12_copiesAll_74 : decode cX12_copiesAll 74 = .ok (.iconst 0, 1) := by decide +kernel
theorem dX12_copiesAll_75 : decode cX12_copiesAll 75 = .ok (.istore 4, 2) := by decide +kernel
theorem dX12_copiesAll_77 : decode cX12_copiesAll 77 = .ok (.iload 4, 2) := by decide +kernel
theorem dX12_copiesAll_79 : decode cX12_copiesAll 79 = .ok (.aload_n 0, 1) := by decide +kernel
theorem dX12_copiesAll_80 : decode cX12_copiesAll 80 = .ok (.iload_n 1, 1) := by decide +kernel
theorem dX12_copiesAll_81 : decode cX12_copiesAll 81 = .ok (.iconst 3, 1) := by decide +kernel
theorem dX12_copiesAll_82 : decode cX12_copiesAll 82 = .ok (.invokevirtual 280, 3) := by decide +kernel
theorem dX12_copiesAll_85 : decode cX12_copiesAll 85 = .ok (.if_icmp .ge 52, 3) := by decide +kernel
theorem dX12_copiesAll_88 : decode cX12_copiesAll 88 = .ok (.aload_n 0, 1) := by decide +kernel
theorem dX12_copiesAll_89 : decode cX12_copiesAll 89 = .ok (.aload_n 0, 1) := by decide +kernel
theorem dX12_copiesAll_90 : decode cX12_copiesAll 90 = .ok (.getfield 122, 3) := by decide +kernel
theorem dX12_copiesAll_93 : decode cX12_copiesAll 93 = .ok (.iload 4, 2) := by decide +kernel
theorem dX12_copiesAll_95 : decode cX12_copiesAll 95 = .ok (.iaload, 1) := by decide +kernel
theorem dX12_copiesAll_96 : decode cX12_copiesAll 96 = .ok (.aload_n 0, 1) := by decide +kernel
theorem dX12_copiesAll_97 : decode cX12_copiesAll 97 = .ok (.getfield 125, 3) := by decide +kernel
theorem dX12_copiesAll_100 : decode cX12_copiesAll 100 = .ok (.iload 4, 2) := by decide +kernel
theorem dX12_copiesAll_102 : decode cX12_copiesAll 102 = .ok (.laload, 1) := by decide +kernel
theorem dX12_copiesAll_103 : decode cX12_copiesAll 103 = .ok (.invokevirtual 19, 3) := by decide +kernel
theorem dX12_copiesAll_106 : decode cX12_copiesAll 106 = .ok (.aload_n 0, 1) := by decide +kernel
theorem dX12_copiesAll_107 : decode cX12_copiesAll 107 = .ok (.iload_n 2, 1) := by decide +kernel
theorem dX12_copiesAll_108 : decode cX12_copiesAll 108 = .ok (.iload 4, 2) := by decide +kernel
theorem dX12_copiesAll_110 : decode cX12_copiesAll 110 = .ok (.iload_n 3, 1) := by decide +kernel
theorem dX12_copiesAll_111 : decode cX12_copiesAll 111 = .ok (.invokevirtual 328, 3) := by decide +kernel
theorem dX12_copiesAll_114 : decode cX12_copiesAll 114 = .ok (.istore 5, 2) := by decide +kernel
theorem dX12_copiesAll_116 : decode cX12_copiesAll 116 = .ok (.iload 5, 2) := by decide +kernel
theorem dX12_copiesAll_118 : decode cX12_copiesAll 118 = .ok (.ifCond .eq 13, 3) := by decide +kernel
theorem dX12_copiesAll_121 : decode cX12_copiesAll 121 = .ok (.aload_n 0, 1) := by decide +kernel
theorem dX12_copiesAll_122 : decode cX12_copiesAll 122 = .ok (.iload 4, 2) := by decide +kernel
theorem dX12_copiesAll_124 : decode cX12_copiesAll 124 = .ok (.iconst 1, 1) := by decide +kernel
theorem dX12_copiesAll_125 : decode cX12_copiesAll 125 = .ok (.iload 5, 2) := by decide +kernel
theorem dX12_copiesAll_127 : decode cX12_copiesAll 127 = .ok (.invokevirtual 325, 3) := by decide +kernel
theorem dX12_copiesAll_130 : decode cX12_copiesAll 130 = .ok (.ireturn, 1) := by decide +kernel
theorem dX12_copiesAll_131 : decode cX12_copiesAll 131 = .ok (.iinc 4 1, 3) := by decide +kernel
theorem dX12_copiesAll_134 : decode cX12_copiesAll 134 = .ok (.goto (-57), 3) := by decide +kernel
theorem dX12_copiesAll_137 : decode cX12_copiesAll 137 = .ok (.aload_n 0, 1) := by decide +kernel
theorem dX12_copiesAll_138 : decode cX12_copiesAll 138 = .ok (.invokevirtual 254, 3) := by decide +kernel
theorem dX12_copiesAll_141 : decode cX12_copiesAll 141 = .ok (.aload_n 0, 1) := by decide +kernel
theorem dX12_copiesAll_142 : decode cX12_copiesAll 142 = .ok (.iload_n 1, 1) := by decide +kernel
theorem dX12_copiesAll_143 : decode cX12_copiesAll 143 = .ok (.iconst 3, 1) := by decide +kernel
theorem dX12_copiesAll_144 : decode cX12_copiesAll 144 = .ok (.invokevirtual 280, 3) := by decide +kernel
theorem dX12_copiesAll_147 : decode cX12_copiesAll 147 = .ok (.ireturn, 1) := by decide +kernel
theorem dX12_copy_0 : decode cX12_copy 0 = .ok (.iload_n 1, 1) := by decide +kernel
theorem dX12_copy_1 : decode cX12_copy 1 = .ok (.invokestatic 269, 3) := by decide +kernel
theorem dX12_copy_4 : decode cX12_copy 4 = .ok (.ifCond .eq 20, 3) := by decide +kernel
theorem dX12_copy_7 : decode cX12_copy 7 = .ok (.iload_n 2, 1) := by decide +kernel
theorem dX12_copy_8 : decode cX12_copy 8 = .ok (.invokestatic 269, 3) := by decide +kernel
theorem dX12_copy_11 : decode cX12_copy 11 = .ok (.ifCond .eq 13, 3) := by decide +kernel
theorem dX12_copy_14 : decode cX12_copy 14 = .ok (.iload_n 3, 1) := by decide +kernel
theorem dX12_copy_15 : decode cX12_copy 15 = .ok (.i2l, 1) := by decide +kernel
theorem dX12_copy_16 : decode cX12_copy 16 = .ok (.lconst 0, 1) := by decide +kernel
theorem dX12_copy_17 : decode cX12_copy 17 = .ok (.lconst 1, 1) := by decide +kernel
theorem dX12_copy_18 : decode cX12_copy 18 = .ok (.invokestatic 15, 3) := by decide +kernel
theorem dX12_copy_21 : decode cX12_copy 21 = .ok (.ifCond .ne 5, 3) := by decide +kernel
theorem dX12_copy_24 : decode cX12_copy 24 = .ok (.iconst (-1), 1) := by decide +kernel
theorem dX12_copy_25 : decode cX12_copy 25 = .ok (.ireturn, 1) := by decide +kernel
theorem dX12_copy_26 : decode cX12_copy 26 = .ok (.aload_n 0, 1) := by decide +kernel
theorem dX12_copy_27 : decode cX12_copy 27 = .ok (.invokevirtual 248, 3) := by decide +kernel
theorem dX12_copy_30 : decode cX12_copy 30 = .ok (.iload_n 3, 1) := by decide +kernel
theorem dX12_copy_31 : decode cX12_copy 31 = .ok (.ifCond .ne 12, 3) := by decide +kernel
theorem dX12_copy_34 : decode cX12_copy 34 = .ok (.aload_n 0, 1) := by decide +kernel
theorem dX12_copy_35 : decode cX12_copy 35 = .ok (.iload_n 1, 1) := by decide +kernel
theorem dX12_copy_36 : decode cX12_copy 36 = .ok (.iload_n 2, 1) := by decide +kernel
theorem dX12_copy_37 : decode cX12_copy 37 = .ok (.invokevirtual 331, 3) := by decide +kernel
theorem dX12_copy_40 : decode cX12_copy 40 = .ok (.goto 9, 3) := by decide +kernel
theorem dX12_copy_43 : decode cX12_copy 43 = .ok (.aload_n 0, 1) := by decide +kernel
theorem dX12_copy_44 : decode cX12_copy 44 = .ok (.iload_n 1, 1) := by decide +kernel
theorem dX12_copy_45 : decode cX12_copy 45 = .ok (.iload_n 2, 1) := by decide +kernel
theorem dX12_copy_46 : decode cX12_copy 46 = .ok (.invokevirtual 334, 3) := by decide +kernel
theorem dX12_copy_49 : decode cX12_copy 49 = .ok (.ireturn, 1) := by decide +kernel
theorem dX12_swap_0 : decode cX12_swap 0 = .ok (.iload_n 1, 1) := by decide +kernel
theorem dX12_swap_1 : decode cX12_swap 1 = .ok (.invokestatic 269, 3) := by decide +kernel
theorem dX12_swap_4 : decode cX12_swap 4 = .ok (.ifCond .eq 10, 3) := by decide +kernel
theorem dX12_swap_7 : decode cX12_swap 7 = .ok (.iload_n 2, 1) := by decide +kernel
theorem dX12_swap_8 : decode cX12_swap 8 = .ok (.invokestatic 269, 3) := by decide +kernel
theorem dX12_swap_11 : decode cX12_swap 11 = .ok (.ifCond .ne 5, 3) := by decide +kernel
theorem dX12_swap_14 : decode cX12_swap 14 = .ok (.iconst (-1), 1) := by decide +kernel
theorem dX12_swap_15 : decode cX12_swap 15 = .ok (.ireturn, 1) := by decide +kernel
theorem dX12_swap_16 : decode cX12_swap 16 = .ok (.aload_n 0, 1) := by decide +kernel
theorem dX12_swap_17 : decode cX12_swap 17 = .ok (.invokevirtual 248, 3) := by decide +kernel
theorem dX12_swap_20 : decode cX12_swap 20 = .ok (.iconst 0, 1) := by decide +kernel
theorem dX12_swap_21 : decode cX12_swap 21 = .ok (.istore_n 3, 1) := by decide +kernel
theorem dX12_swap_22 : decode cX12_swap 22 = .ok (.iload_n 3, 1) := by decide +kernel
theorem dX12_swap_23 : decode cX12_swap 23 = .ok (.aload_n 0, 1) := by decide +kernel
theorem dX12_swap_24 : decode cX12_swap 24 = .ok (.iload_n 1, 1) := by decide +kernel
theorem dX12_swap_25 : decode cX12_swap 25 = .ok (.iconst 3, 1) := by decide +kernel
theorem dX12_swap_26 : decode cX12_swap 26 = .ok (.invokevirtual 280, 3) := by decide +kernel
theorem dX12_swap_29 : decode cX12_swap 29 = .ok (.if_icmp .ge 145, 3) := by decide +kernel
theorem dX12_swap_32 : decode cX12_swap 32 = .ok (.aload_n 0, 1) := by decide +kernel
theorem dX12_swap_33 : decode cX12_swap 33 = .ok (.iload_n 1, 1) := by decide +kernel
theorem dX12_swap_34 : decode cX12_swap 34 = .ok (.iload_n 3, 1) := by decide +kernel
theorem dX12_swap_35 : decode cX12_swap 35 = .ok (.bipush 8, 2) := by decide +kernel
theorem dX12_swap_37 : decode cX12_swap 37 = .ok (.invokevirtual 286, 3) := by decide +kernel
theorem dX12_swap_40 : decode cX12_swap 40 = .ok (.istore 4, 2) := by decide +kernel
theorem dX12_swap_42 : decode cX12_swap 42 = .ok (.iload 4, 2) := by decide +kernel
theorem dX12_swap_44 : decode cX12_swap 44 = .ok (.ifCond .eq 12, 3) := by decide +kernel
theorem dX12_swap_47 : decode cX12_swap 47 = .ok (.aload_n 0, 1) := by decide +kernel
theorem dX12_swap_48 : decode cX12_swap 48 = .ok (.iload_n 3, 1) := by decide +kernel
theorem dX12_swap_49 : decode cX12_swap 49 = .ok (.iconst 0, 1) := by decide +kernel
theorem dX12_swap_50 : decode cX12_swap 50 = .ok (.iload 4, 2) := by decide +kernel
theorem dX12_swap_52 : decode cX12_swap 52 = .ok (.invokevirtual 325, 3) := by decide +kernel
theorem dX12_swap_55 : decode cX12_swap 55 = .ok (.ireturn, 1) := by decide +kernel
theorem dX12_swap_56 : decode cX12_swap 56 = .ok (.aload_n 0, 1) := by decide +kernel
theorem dX12_swap_57 : decode cX12_swap 57 = .ok (.getfield 3, 3) := by decide +kernel
theorem dX12_swap_60 : decode cX12_swap 60 = .ok (.istore 5, 2) := by decide +kernel
theorem dX12_swap_62 : decode cX12_swap 62 = .ok (.aload_n 0, 1) := by decide +kernel
theorem dX12_swap_63 : decode cX12_swap 63 = .ok (.getfield 9, 3) := by decide +kernel
theorem dX12_swap_66 : decode cX12_swap 66 = .ok (.lstore 6, 2) := by decide +kernel
theorem dX12_swap_68 : decode cX12_swap 68 = .ok (.aload_n 0, 1) := by decide +kernel
theorem dX12_swap_69 : decode cX12_swap 69 = .ok (.iload_n 2, 1) := by decide +kernel
theorem dX12_swap_70 : decode cX12_swap 70 = .ok (.iload_n 3, 1) := by decide +kernel
theorem dX12_swap_71 : decode cX12_swap 71 = .ok (.bipush 8, 2) := by decide +kernel
theorem dX12_swap_73 : decode cX12_swap 73 = .ok (.invokevirtual 286, 3) := by decide +kernel
theorem dX12_swap_76 : decode cX12_swap 76 = .ok (.istore 4, 2) := by decide +kernel
theorem dX12_swap_78 : decode cX12_swap 78 = .ok (.iload 4, 2) := by decide +kernel
theorem dX12_swap_80 : decode cX12_swap 80 = .ok (.ifCond .eq 12, 3) := by decide +kernel
theorem dX12_swap_83 : decode cX12_swap 83 = .ok (.aload_n 0, 1) := by decide +kernel
theorem dX12_swap_84 : decode cX12_swap 84 = .ok (.iload_n 3, 1) := by decide +kernel
theorem dX12_swap_85 : decode cX12_swap 85 = .ok (.iconst 1, 1) := by decide +kernel
theorem dX12_swap_86 : decode cX12_swap 86 = .ok (.iload 4, 2) := by decide +kernel
theorem dX12_swap_88 : decode cX12_swap 88 = .ok (.invokevirtual 325, 3) := by decide +kernel
theorem dX12_swap_91 : decode cX12_swap 91 = .ok (.ireturn, 1) := by decide +kernel
theorem dX12_swap_92 : decode cX12_swap 92 = .ok (.aload_n 0, 1) := by decide +kernel
theorem dX12_swap_93 : decode cX12_swap 93 = .ok (.getfield 3, 3) := by decide +kernel
theorem dX12_swap_96 : decode cX12_swap 96 = .ok (.istore 8, 2) := by decide +kernel
theorem dX12_swap_98 : decode cX12_swap 98 = .ok (.aload_n 0, 1) := by decide +kernel
theorem dX12_swap_99 : decode cX12_swap 99 = .ok (.getfield 9, 3) := by decide +kernel
theorem dX12_swap_102 : decode cX12_swap 102 = .ok (.lstore 9, 2) := by decide +kernel
theorem dX12_swap_104 : decode cX12_swap 104 = .ok (.aload_n 0, 1) := by decide +kernel
theorem dX12_swap_105 : decode cX12_swap 105 = .ok (.iload 5, 2) := by decide +kernel
theorem dX12_swap_107 : decode cX12_swap 107 = .ok (.lload 6, 2) := by decide +kernel
theorem dX12_swap_109 : decode cX12_swap 109 = .ok (.invokevirtual 19, 3) := by decide +kernel
theorem dX12_swap_112 : decode cX12_swap 112 = .ok (.aload_n 0, 1) := by decide +kernel
theorem dX12_swap_113 : decode cX12_swap 113 = .ok (.iload_n 2, 1) := by decide +kernel
theorem dX12_swap_114 : decode cX12_swap 114 = .ok (.iload_n 3, 1) := by decide +kernel
theorem dX12_swap_115 : decode cX12_swap 115 = .ok (.bipush 8, 2) := by decide +kernel
theorem dX12_swap_117 : decode cX12_swap 117 = .ok (.invokevirtual 328, 3) := by decide +kernel
theorem dX12_swap_120 : decode cX12_swap 120 = .ok (.istore 4, 2) := by decide +kernel
theorem dX12_swap_122 : decode cX12_swap 122 = .ok (.iload 4, 2) := by decide +kernel
theorem dX12_swap_124 : decode cX12_swap 124 = .ok (.ifCond .eq 12, 3) := by decide +kernel
theorem dX12_swap_127 : decode cX12_swap 127 = .ok (.aload_n 0, 1) := by decide +kernel
theorem dX12_swap_128 : decode cX12_swap 128 = .ok (.iload_n 3, 1) := by decide +kernel
theorem dX12_swap_129 : decode cX12_swap 129 = .ok (.iconst 2, 1) := by decide +kernel
theorem dX12_swap_130 : decode cX12_swap 130 = .ok (.iload 4, 2) := by decide +kernel
theorem dX12_swap_132 : decode cX12_swap 132 = .ok (.invokevirtual 325, 3) := by decide +kernel
theorem dX12_swap_135 : decode cX12_swap 135 = .ok (.ireturn, 1) := by decide +kernel
theorem dX12_swap_136 : decode cX12_swap 136 = .ok (.aload_n 0, 1) := by decide +kernel
theorem dX12_swap_137 : decode cX12_swap 137 = .ok (.iload 8, 2) := by decide +kernel
theorem dX12_swap_139 : decode cX12_swap 139 = .ok (.lload 9, 2) := by decide +kernel
theorem dX12_swap_141 : decode cX12_swap 141 = .ok (.invokevirtual 19, 3) := by decide +kernel
theorem dX12_swap_144 : decode cX12_swap 144 = .ok (.aload_n 0, 1) := by decide +kernel
theorem dX12_swap_145 : decode cX12_swap 145 = .ok (.iload_n 1, 1) := by decide +kernel
theorem dX12_swap_146 : decode cX12_swap 146 = .ok (.iload_n 3, 1) := by decide +kernel
theorem dX12_swap_147 : decode cX12_swap 147 = .ok (.bipush 8, 2) := by decide +kernel
theorem dX12_swap_149 : decode cX12_swap 149 = .ok (.invokevirtual 328, 3) := by decide +kernel
theorem dX12_swap_152 : decode cX12_swap 152 = .ok (.istore 4, 2) := by decide +kernel
theorem dX12_swap_154 : decode cX12_swap 154 = .ok (.iload 4, 2) := by decide +kernel
theorem dX12_swap_156 : decode cX12_swap 156 = .ok (.ifCond .eq 12, 3) := by decide +kernel
theorem dX12_swap_159 : decode cX12_swap 159 = .ok (.aload_n 0, 1) := by decide +kernel
theorem dX12_swap_160 : decode cX12_swap 160 = .ok (.iload_n 3, 1) := by decide +kernel
theorem dX12_swap_161 : decode cX12_swap 161 = .ok (.iconst 3, 1) := by decide +kernel
theorem dX12_swap_162 : decode cX12_swap 162 = .ok (.iload 4, 2) := by decide +kernel
theorem dX12_swap_164 : decode cX12_swap 164 = .ok (.invokevirtual 325, 3) := by decide +kernel
theorem dX12_swap_167 : decode cX12_swap 167 = .ok (.ireturn, 1) := by decide +kernel
theorem dX12_swap_168 : decode cX12_swap 168 = .ok (.iinc 3 1, 3) := by decide +kernel
theorem dX12_swap_171 : decode cX12_swap 171 = .ok (.goto (-149), 3) := by decide +kernel
theorem dX12_swap_174 : decode cX12_swap 174 = .ok (.aload_n 0, 1) := by decide +kernel
theorem dX12_swap_175 : decode cX12_swap 175 = .ok (.invokevirtual 254, 3) := by decide +kernel
theorem dX12_swap_178 : decode cX12_swap 178 = .ok (.aload_n 0, 1) := by decide +kernel
theorem dX12_swap_179 : decode cX12_swap 179 = .ok (.iload_n 1, 1) := by decide +kernel
theorem dX12_swap_180 : decode cX12_swap 180 = .ok (.iconst 3, 1) := by decide +kernel
theorem dX12_swap_181 : decode cX12_swap 181 = .ok (.invokevirtual 280, 3) := by decide +kernel
theorem dX12_swap_184 : decode cX12_swap 184 = .ok (.ireturn, 1) := by decide +kernel
theorem dX12_fill_0 : decode cX12_fill 0 = .ok (.iload_n 1, 1) := by decide +kernel
theorem dX12_fill_1 : decode cX12_fill 1 = .ok (.invokestatic 269, 3) := by decide +kernel
theorem dX12_fill_4 : decode cX12_fill 4 = .ok (.ifCond .eq 15, 3) := by decide +kernel
theorem dX12_fill_7 : decode cX12_fill 7 = .ok (.iload_n 2, 1) := by decide +kernel
theorem dX12_fill_8 : decode cX12_fill 8 = .ok (.i2l, 1) := by decide +kernel
theorem dX12_fill_9 : decode cX12_fill 9 = .ok (.lconst 0, 1) := by decide +kernel
theorem dX12_fill_10 : decode cX12_fill 10 = .ok (.ldc2_w 263, 3) := by decide +kernel
theorem dX12_fill_13 : decode cX12_fill 13 = .ok (.invokestatic 15, 3) := by decide +kernel
theorem dX12_fill_16 : decode cX12_fill 16 = .ok (.ifCond .ne 5, 3) := by decide +kernel
theorem dX12_fill_19 : decode cX12_fill 19 = .ok (.iconst (-1), 1) := by decide +kernel
theorem dX12_fill_20 : decode cX12_fill 20 = .ok (.ireturn, 1) := by decide +kernel
theorem dX12_fill_21 : decode cX12_fill 21 = .ok (.iload_n 2, 1) := by decide +kernel
theorem dX12_fill_22 : decode cX12_fill 22 = .ok (.lload_n 3, 1) := by decide +kernel
theorem dX12_fill_23 : decode cX12_fill 23 = .ok (.invokestatic 265, 3) := by decide +kernel
theorem dX12_fill_26 : decode cX12_fill 26 = .ok (.ifCond .eq 6, 3) := by decide +kernel
theorem dX12_fill_29 : decode cX12_fill 29 = .ok (.bipush (-2), 2) := by decide +kernel
theorem dX12_fill_31 : decode cX12_fill 31 = .ok (.ireturn, 1) := by decide +kernel
theorem dX12_fill_32 : decode cX12_fill 32 = .ok (.aload_n 0, 1) := by decide +kernel
theorem dX12_fill_33 : decode cX12_fill 33 = .ok (.iload_n 2, 1) := by decide +kernel
theorem dX12_fill_34 : decode cX12_fill 34 = .ok (.lload_n 3, 1) := by decide +kernel
theorem dX12_fill_35 : decode cX12_fill 35 = .ok (.invokevirtual 257, 3) := by decide +kernel
theorem dX12_fill_38 : decode cX12_fill 38 = .ok (.aload_n 0, 1) := by decide +kernel
theorem dX12_fill_39 : decode cX12_fill 39 = .ok (.invokevirtual 248, 3) := by decide +kernel
theorem dX12_fill_42 : decode cX12_fill 42 = .ok (.iconst 0, 1) := by decide +kernel
theorem dX12_fill_43 : decode cX12_fill 43 = .ok (.istore 5, 2) := by decide +kernel
theorem dX12_fill_45 : decode cX12_fill 45 = .ok (.iload 5, 2) := by decide +kernel
theorem dX12_fill_47 : decode cX12_fill 47 = .ok (.aload_n 0, 1) := by decide +kernel
theorem dX12_fill_48 : decode cX12_fill 48 = .ok (.iload_n 1, 1) := by decide +kernel
theorem dX12_fill_49 : decode cX12_fill 49 = .ok (.iconst 3, 1) := by decide +kernel
theorem dX12_fill_50 : decode cX12_fill 50 = .ok (.invokevirtual 280, 3) := by decide +kernel
theorem dX12_fill_53 : decode cX12_fill 53 = .ok (.if_icmp .ge 35, 3) := by decide +kernel
theorem dX12_fill_56 : decode cX12_fill 56 = .ok (.aload_n 0, 1) := by decide +kernel
theorem dX12_fill_57 : decode cX12_fill 57 = .ok (.iload_n 1, 1) := by decide +kernel
theorem dX12_fill_58 : decode cX12_fill 58 = .ok (.iload 5, 2) := by decide +kernel
theorem dX12_fill_60 : decode cX12_fill 60 = .ok (.bipush 8, 2) := by decide +kernel
theorem dX12_fill_62 : decode cX12_fill 62 = .ok (.invokevirtual 328, 3) := by decide +kernel
theorem dX12_fill_65 : decode cX12_fill 65 = .ok (.istore 6, 2) := by decide +kernel
theorem dX12_fill_67 : decode cX12_fill 67 = .ok (.iload 6, 2) := by decide +kernel
theorem dX12_fill_69 : decode cX12_fill 69 = .ok (.ifCond .eq 13, 3) := by decide +kernel
theorem dX12_fill_72 : decode cX12_fill 72 = .ok (.aload_n 0, 1) := by decide +kernel
theorem dX12_fill_73 : decode cX12_fill 73 = .ok (.iload 5, 2) := by decide +kernel
theorem dX12_fill_75 : decode cX12_fill 75 = .ok (.iconst 1, 1) := by decide +kernel
theorem dX12_fill_76 : decode cX12_fill 76 = .ok (.iload 6, 2) := by decide +kernel
theorem dX12_fill_78 : decode cX12_fill 78 = .ok (.invokevirtual 325, 3) := by decide +kernel
theorem dX12_fill_81 : decode cX12_fill 81 = .ok (.ireturn, 1) := by decide +kernel
theorem dX12_fill_82 : decode cX12_fill 82 = .ok (.iinc 5 1, 3) := by decide +kernel
theorem dX12_fill_85 : decode cX12_fill 85 = .ok (.goto (-40), 3) := by decide +kernel
theorem dX12_fill_88 : decode cX12_fill 88 = .ok (.aload_n 0, 1) := by decide +kernel
theorem dX12_fill_89 : decode cX12_fill 89 = .ok (.invokevirtual 254, 3) := by decide +kernel
theorem dX12_fill_92 : decode cX12_fill 92 = .ok (.aload_n 0, 1) := by decide +kernel
theorem dX12_fill_93 : decode cX12_fill 93 = .ok (.iload_n 1, 1) := by decide +kernel
theorem dX12_fill_94 : decode cX12_fill 94 = .ok (.iconst 3, 1) := by decide +kernel
theorem dX12_fill_95 : decode cX12_fill 95 = .ok (.invokevirtual 280, 3) := by decide +kernel
theorem dX12_fill_98 : decode cX12_fill 98 = .ok (.ireturn, 1) := by decide +kernel
theorem dX12_noRow_0 : decode cX12_noRow 0 = .ok (.iload_n 1, 1) := by decide +kernel
theorem dX12_noRow_1 : decode cX12_noRow 1 = .ok (.invokestatic 190, 3) := by decide +kernel
theorem dX12_noRow_4 : decode cX12_noRow 4 = .ok (.ifCond .ne 7, 3) := by decide +kernel
theorem dX12_noRow_7 : decode cX12_noRow 7 = .ok (.iconst (-1), 1) := by decide +kernel
theorem dX12_noRow_8 : decode cX12_noRow 8 = .ok (.goto 33, 3) := by decide +kernel
theorem dX12_noRow_11 : decode cX12_noRow 11 = .ok (.aload_n 0, 1) := by decide +kernel
theorem dX12_noRow_12 : decode cX12_noRow 12 = .ok (.getfield 80, 3) := by decide +kernel
theorem dX12_noRow_15 : decode cX12_noRow 15 = .ok (.iload_n 1, 1) := by decide +kernel
theorem dX12_noRow_16 : decode cX12_noRow 16 = .ok (.iaload, 1) := by decide +kernel
theorem dX12_noRow_17 : decode cX12_noRow 17 = .ok (.bipush (-11), 2) := by decide +kernel
theorem dX12_noRow_19 : decode cX12_noRow 19 = .ok (.if_icmp .ne 8, 3) := by decide +kernel
theorem dX12_noRow_22 : decode cX12_noRow 22 = .ok (.bipush (-11), 2) := by decide +kernel
theorem dX12_noRow_24 : decode cX12_noRow 24 = .ok (.goto 17, 3) := by decide +kernel
theorem dX12_noRow_27 : decode cX12_noRow 27 = .ok (.aload_n 0, 1) := by decide +kernel
theorem dX12_noRow_28 : decode cX12_noRow 28 = .ok (.iload_n 1, 1) := by decide +kernel
theorem dX12_noRow_29 : decode cX12_noRow 29 = .ok (.invokevirtual 199, 3) := by decide +kernel
theorem dX12_noRow_32 : decode cX12_noRow 32 = .ok (.ifCond .eq 7, 3) := by decide +kernel
theorem dX12_noRow_35 : decode cX12_noRow 35 = .ok (.iconst 0, 1) := by decide +kernel
theorem dX12_noRow_36 : decode cX12_noRow 36 = .ok (.goto 5, 3) := by decide +kernel
theorem dX12_noRow_39 : decode cX12_noRow 39 = .ok (.bipush (-12), 2) := by decide +kernel
theorem dX12_noRow_41 : decode cX12_noRow 41 = .ok (.ireturn, 1) := by decide +kernel
theorem dX12_views_0 : decode cX12_views 0 = .ok (.aload_n 0, 1) := by decide +kernel
theorem dX12_views_1 : decode cX12_views 1 = .ok (.iload_n 1, 1) := by decide +kernel
theorem dX12_views_2 : decode cX12_views 2 = .ok (.invokevirtual 337, 3) := by decide +kernel
theorem dX12_views_5 : decode cX12_views 5 = .ok (.istore_n 2, 1) := by decide +kernel
theorem dX12_views_6 : decode cX12_views 6 = .ok (.iload_n 2, 1) := by decide +kernel
theorem dX12_views_7 : decode cX12_views 7 = .ok (.ifCond .eq 5, 3) := by decide +kernel
theorem dX12_views_10 : decode cX12_views 10 = .ok (.iload_n 2, 1) := by decide +kernel
theorem dX12_views_11 : decode cX12_views 11 = .ok (.ireturn, 1) := by decide +kernel
theorem dX12_views_12 : decode cX12_views 12 = .ok (.sipush 256, 3) := by decide +kernel
theorem dX12_views_15 : decode cX12_views 15 = .ok (.istore_n 3, 1) := by decide +kernel
theorem dX12_views_16 : decode cX12_views 16 = .ok (.iconst 0, 1) := by decide +kernel
theorem dX12_views_17 : decode cX12_views 17 = .ok (.istore 4, 2) := by decide +kernel
theorem dX12_views_19 : decode cX12_views 19 = .ok (.iload 4, 2) := by decide +kernel
theorem dX12_views_21 : decode cX12_views 21 = .ok (.bipush 7, 2) := by decide +kernel
theorem dX12_views_23 : decode cX12_views 23 = .ok (.if_icmp .gt 39, 3) := by decide +kernel
theorem dX12_views_26 : decode cX12_views 26 = .ok (.iload_n 3, 1) := by decide +kernel
theorem dX12_views_27 : decode cX12_views 27 = .ok (.aload_n 0, 1) := by decide +kernel
theorem dX12_views_28 : decode cX12_views 28 = .ok (.getfield 63, 3) := by decide +kernel
theorem dX12_views_31 : decode cX12_views 31 = .ok (.aload_n 0, 1) := by decide +kernel
theorem dX12_views_32 : decode cX12_views 32 = .ok (.getfield 80, 3) := by decide +kernel
theorem dX12_views_35 : decode cX12_views 35 = .ok (.iload_n 1, 1) := by decide +kernel
theorem dX12_views_36 : decode cX12_views 36 = .ok (.iaload, 1) := by decide +kernel
theorem dX12_views_37 : decode cX12_views 37 = .ok (.iaload, 1) := by decide +kernel
theorem dX12_views_38 : decode cX12_views 38 = .ok (.iload 4, 2) := by decide +kernel
theorem dX12_views_40 : decode cX12_views 40 = .ok (.invokestatic 213, 3) := by decide +kernel
theorem dX12_views_43 : decode cX12_views 43 = .ok (.ifCond .eq 10, 3) := by decide +kernel
theorem dX12_views_46 : decode cX12_views 46 = .ok (.iconst 1, 1) := by decide +kernel
theorem dX12_views_47 : decode cX12_views 47 = .ok (.iload 4, 2) := by decide +kernel
theorem dX12_views_49 : decode cX12_views 49 = .ok (.ishl, 1) := by decide +kernel
theorem dX12_views_50 : decode cX12_views 50 = .ok (.goto 4, 3) := by decide +kernel
theorem dX12_views_53 : decode cX12_views 53 = .ok (.iconst 0, 1) := by decide +kernel
theorem dX12_views_54 : decode cX12_views 54 = .ok (.ior, 1) := by decide +kernel
theorem dX12_views_55 : decode cX12_views 55 = .ok (.istore_n 3, 1) := by decide +kernel
theorem dX12_views_56 : decode cX12_views 56 = .ok (.iinc 4 1, 3) := by decide +kernel
theorem dX12_views_59 : decode cX12_views 59 = .ok (.goto (-40), 3) := by decide +kernel
theorem dX12_views_62 : decode cX12_views 62 = .ok (.iload_n 3, 1) := by decide +kernel
theorem dX12_views_63 : decode cX12_views 63 = .ok (.ireturn, 1) := by decide +kernel
theorem dX12_takes_0 : decode cX12_takes 0 = .ok (.iload_n 1, 1) := by decide +kernel
theorem dX12_takes_1 : decode cX12_takes 1 = .ok (.invokestatic 190, 3) := by decide +kernel
theorem dX12_takes_4 : decode cX12_takes 4 = .ok (.ifCond .eq 15, 3) := by decide +kernel
theorem dX12_takes_7 : decode cX12_takes 7 = .ok (.iload_n 2, 1) := by decide +kernel
theorem dX12_takes_8 : decode cX12_takes 8 = .ok (.i2l, 1) := by decide +kernel
theorem dX12_takes_9 : decode cX12_takes 9 = .ok (.lconst 0, 1) := by decide +kernel
theorem dX12_takes_10 : decode cX12_takes 10 = .ok (.ldc2_w 263, 3) := by decide +kernel
theorem dX12_takes_13 : decode cX12_takes 13 = .ok (.invokestatic 15, 3) := by decide +kernel
theorem dX12_takes_16 : decode cX12_takes 16 = .ok (.ifCond .ne 5, 3) := by decide +kernel
theorem dX12_takes_19 : decode cX12_takes 19 = .ok (.iconst (-1), 1) := by decide +kernel
theorem dX12_takes_20 : decode cX12_takes 20 = .ok (.ireturn, 1) := by decide +kernel
theorem dX12_takes_21 : decode cX12_takes 21 = .ok (.aload_n 0, 1) := by decide +kernel
theorem dX12_takes_22 : decode cX12_takes 22 = .ok (.iload_n 1, 1) := by decide +kernel
theorem dX12_takes_23 : decode cX12_takes 23 = .ok (.invokevirtual 337, 3) := by decide +kernel
theorem dX12_takes_26 : decode cX12_takes 26 = .ok (.istore_n 3, 1) := by decide +kernel
theorem dX12_takes_27 : decode cX12_takes 27 = .ok (.iload_n 3, 1) := by decide +kernel
theorem dX12_takes_28 : decode cX12_takes 28 = .ok (.ifCond .eq 5, 3) := by decide +kernel
theorem dX12_takes_31 : decode cX12_takes 31 = .ok (.iload_n 3, 1) := by decide +kernel
theorem dX12_takes_32 : decode cX12_takes 32 = .ok (.ireturn, 1) := by decide +kernel
theorem dX12_takes_33 : decode cX12_takes 33 = .ok (.aload_n 0, 1) := by decide +kernel
theorem dX12_takes_34 : decode cX12_takes 34 = .ok (.getfield 63, 3) := by decide +kernel
theorem dX12_takes_37 : decode cX12_takes 37 = .ok (.aload_n 0, 1) := by decide +kernel
theorem dX12_takes_38 : decode cX12_takes 38 = .ok (.getfield 80, 3) := by decide +kernel
theorem dX12_takes_41 : decode cX12_takes 41 = .ok (.iload_n 1, 1) := by decide +kernel
theorem dX12_takes_42 : decode cX12_takes 42 = .ok (.iaload, 1) := by decide +kernel
theorem dX12_takes_43 : decode cX12_takes 43 = .ok (.iaload, 1) := by decide +kernel
theorem dX12_takes_44 : decode cX12_takes 44 = .ok (.istore 4, 2) := by decide +kernel
theorem dX12_takes_46 : decode cX12_takes 46 = .ok (.iload 4, 2) := by decide +kernel
theorem dX12_takes_48 : decode cX12_takes 48 = .ok (.bipush 8, 2) := by decide +kernel
theorem dX12_takes_50 : decode cX12_takes 50 = .ok (.if_icmp .ge 12, 3) := by decide +kernel
theorem dX12_takes_53 : decode cX12_takes 53 = .ok (.iload_n 2, 1) := by decide +kernel
theorem dX12_takes_54 : decode cX12_takes 54 = .ok (.iload 4, 2) := by decide +kernel
theorem dX12_takes_56 : decode cX12_takes 56 = .ok (.invokestatic 213, 3) := by decide +kernel
theorem dX12_takes_59 : decode cX12_takes 59 = .ok (.goto 27, 3) := by decide +kernel
theorem dX12_takes_62 : decode cX12_takes 62 = .ok (.iload 4, 2) := by decide +kernel
theorem dX12_takes_64 : decode cX12_takes 64 = .ok (.bipush 8, 2) := by decide +kernel
theorem dX12_takes_66 : decode cX12_takes 66 = .ok (.if_icmp .eq 15, 3) := by decide +kernel
theorem dX12_takes_69 : decode cX12_takes 69 = .ok (.iload_n 2, 1) := by decide +kernel
theorem dX12_takes_70 : decode cX12_takes 70 = .ok (.bipush 9, 2) := by decide +kernel
theorem dX12_takes_72 : decode cX12_takes 72 = .ok (.if_icmp .eq 9, 3) := by decide +kernel
theorem dX12_takes_75 : decode cX12_takes 75 = .ok (.iload_n 2, 1) := by decide +kernel
theorem dX12_takes_76 : decode cX12_takes 76 = .ok (.bipush 8, 2) := by decide +kernel
theorem dX12_takes_78 : decode cX12_takes 78 = .ok (.if_icmp .ne 7, 3) := by decide +kernel
theorem dX12_takes_81 : decode cX12_takes 81 = .ok (.iconst 1, 1) := by decide +kernel
theorem dX12_takes_82 : decode cX12_takes 82 = .ok (.goto 4, 3) := by decide +kernel
theorem dX12_takes_85 : decode cX12_takes 85 = .ok (.iconst 0, 1) := by decide +kernel
theorem dX12_takes_86 : decode cX12_takes 86 = .ok (.istore 5, 2) := by decide +kernel
theorem dX12_takes_88 : decode cX12_takes 88 = .ok (.iload 5, 2) := by decide +kernel
theorem dX12_takes_90 : decode cX12_takes 90 = .ok (.ifCond .eq 7, 3) := by decide +kernel
theorem dX12_takes_93 : decode cX12_takes 93 = .ok (.iconst 1, 1) := by decide +kernel
theorem dX12_takes_94 : decode cX12_takes 94 = .ok (.goto 4, 3) := by decide +kernel
theorem dX12_takes_97 : decode cX12_takes 97 = .ok (.iconst 0, 1) := by decide +kernel
theorem dX12_takes_98 : decode cX12_takes 98 = .ok (.ireturn, 1) := by decide +kernel
theorem dX12_exact_0 : decode cX12_exact 0 = .ok (.iload_n 1, 1) := by decide +kernel
theorem dX12_exact_1 : decode cX12_exact 1 = .ok (.invokestatic 190, 3) := by decide +kernel
theorem dX12_exact_4 : decode cX12_exact 4 = .ok (.ifCond .eq 15, 3) := by decide +kernel
theorem dX12_exact_7 : decode cX12_exact 7 = .ok (.iload_n 2, 1) := by decide +kernel
theorem dX12_exact_8 : decode cX12_exact 8 = .ok (.i2l, 1) := by decide +kernel
theorem dX12_exact_9 : decode cX12_exact 9 = .ok (.lconst 0, 1) := by decide +kernel
theorem dX12_exact_10 : decode cX12_exact 10 = .ok (.ldc2_w 35, 3) := by decide +kernel
theorem dX12_exact_13 : decode cX12_exact 13 = .ok (.invokestatic 15, 3) := by decide +kernel
theorem dX12_exact_16 : decode cX12_exact 16 = .ok (.ifCond .ne 5, 3) := by decide +kernel
theorem dX12_exact_19 : decode cX12_exact 19 = .ok (.iconst (-1), 1) := by decide +kernel
theorem dX12_exact_20 : decode cX12_exact 20 = .ok (.ireturn, 1) := by decide +kernel
theorem dX12_exact_21 : decode cX12_exact 21 = .ok (.aload_n 0, 1) := by decide +kernel
theorem dX12_exact_22 : decode cX12_exact 22 = .ok (.iload_n 1, 1) := by decide +kernel
theorem dX12_exact_23 : decode cX12_exact 23 = .ok (.invokevirtual 337, 3) := by decide +kernel
theorem dX12_exact_26 : decode cX12_exact 26 = .ok (.istore_n 3, 1) := by decide +kernel
theorem dX12_exact_27 : decode cX12_exact 27 = .ok (.iload_n 3, 1) := by decide +kernel
theorem dX12_exact_28 : decode cX12_exact 28 = .ok (.ifCond .eq 5, 3) := by decide +kernel
theorem dX12_exact_31 : decode cX12_exact 31 = .ok (.iload_n 3, 1) := by decide +kernel
theorem dX12_exact_32 : decode cX12_exact 32 = .ok (.ireturn, 1) := by decide +kernel
theorem dX12_exact_33 : decode cX12_exact 33 = .ok (.aload_n 0, 1) := by decide +kernel
theorem dX12_exact_34 : decode cX12_exact 34 = .ok (.getfield 80, 3) := by decide +kernel
theorem dX12_exact_37 : decode cX12_exact 37 = .ok (.iload_n 1, 1) := by decide +kernel
theorem dX12_exact_38 : decode cX12_exact 38 = .ok (.iaload, 1) := by decide +kernel
theorem dX12_exact_39 : decode cX12_exact 39 = .ok (.istore 4, 2) := by decide +kernel
theorem dX12_exact_41 : decode cX12_exact 41 = .ok (.aload_n 0, 1) := by decide +kernel
theorem dX12_exact_42 : decode cX12_exact 42 = .ok (.getfield 63, 3) := by decide +kernel
theorem dX12_exact_45 : decode cX12_exact 45 = .ok (.iload 4, 2) := by decide +kernel
theorem dX12_exact_47 : decode cX12_exact 47 = .ok (.iaload, 1) := by decide +kernel
theorem dX12_exact_48 : decode cX12_exact 48 = .ok (.iload_n 2, 1) := by decide +kernel
theorem dX12_exact_49 : decode cX12_exact 49 = .ok (.invokestatic 213, 3) := by decide +kernel
theorem dX12_exact_52 : decode cX12_exact 52 = .ok (.ifCond .ne 6, 3) := by decide +kernel
theorem dX12_exact_55 : decode cX12_exact 55 = .ok (.bipush (-12), 2) := by decide +kernel
theorem dX12_exact_57 : decode cX12_exact 57 = .ok (.ireturn, 1) := by decide +kernel
theorem dX12_exact_58 : decode cX12_exact 58 = .ok (.iconst 0, 1) := by decide +kernel
theorem dX12_exact_59 : decode cX12_exact 59 = .ok (.istore 5, 2) := by decide +kernel
theorem dX12_exact_61 : decode cX12_exact 61 = .ok (.iconst 0, 1) := by decide +kernel
theorem dX12_exact_62 : decode cX12_exact 62 = .ok (.istore 6, 2) := by decide +kernel
theorem dX12_exact_64 : decode cX12_exact 64 = .ok (.iload 6, 2) := by decide +kernel
theorem dX12_exact_66 : decode cX12_exact 66 = .ok (.aload_n 0, 1) := by decide +kernel
theorem dX12_exact_67 : decode cX12_exact 67 = .ok (.getfield 67, 3) := by decide +kernel
theorem dX12_exact_70 : decode cX12_exact 70 = .ok (.iload 4, 2) := by decide +kernel
theorem dX12_exact_72 : decode cX12_exact 72 = .ok (.iaload, 1) := by decide +kernel
theorem dX12_exact_73 : decode cX12_exact 73 = .ok (.if_icmp .ge 67, 3) := by decide +kernel
theorem dX12_exact_76 : decode cX12_exact 76 = .ok (.aload_n 0, 1) := by decide +kernel
theorem dX12_exact_77 : decode cX12_exact 77 = .ok (.getfield 76, 3) := by decide +kernel
theorem dX12_exact_80 : decode cX12_exact 80 = .ok (.bipush 32, 2) := by decide +kernel
theorem dX12_exact_82 : decode cX12_exact 82 = .ok (.iload 4, 2) := by decide +kernel
theorem dX12_exact_84 : decode cX12_exact 84 = .ok (.imul, 1) := by decide +kernel
theorem dX12_exact_85 : decode cX12_exact 85 = .ok (.iload 6, 2) := by decide +kernel
theorem dX12_exact_87 : decode cX12_exact 87 = .ok (.iadd, 1) := by decide +kernel
theorem dX12_exact_88 : decode cX12_exact 88 = .ok (.laload, 1) := by decide +kernel
theorem dX12_exact_89 : decode cX12_exact 89 = .ok (.lstore 7, 2) := by decide +kernel
theorem dX12_exact_91 : decode cX12_exact 91 = .ok (.iload 5, 2) := by decide +kernel
theorem dX12_exact_93 : decode cX12_exact 93 = .ok (.aload_n 0, 1) := by decide +kernel
theorem dX12_exact_94 : decode cX12_exact 94 = .ok (.getfield 63, 3) := by decide +kernel
theorem dX12_exact_97 : decode cX12_exact 97 = .ok (.iload 4, 2) := by decide +kernel
theorem dX12_exact_99 : decode cX12_exact 99 = .ok (.iaload, 1) := by decide +kernel
theorem dX12_exact_100 : decode cX12_exact 100 = .ok (.lload 7, 2) := by decide +kernel
theorem dX12_exact_102 : decode cX12_exact 102 = .ok (.invokestatic 242, 3) := by decide +kernel
theorem dX12_exact_105 : decode cX12_exact 105 = .ok (.iload_n 2, 1) := by decide +kernel
theorem dX12_exact_106 : decode cX12_exact 106 = .ok (.aload_n 0, 1) := by decide +kernel
theorem dX12_exact_107 : decode cX12_exact 107 = .ok (.getfield 63, 3) := by decide +kernel
theorem dX12_exact_110 : decode cX12_exact 110 = .ok (.iload 4, 2) := by decide +kernel
theorem dX12_exact_112 : decode cX12_exact 112 = .ok (.iaload, 1) := by decide +kernel
theorem dX12_exact_113 : decode cX12_exact 113 = .ok (.lload 7, 2) := by decide +kernel
theorem dX12_exact_115 : decode cX12_exact 115 = .ok (.iload_n 2, 1) := by decide +kernel
theorem dX12_exact_116 : decode cX12_exact 116 = .ok (.invokestatic 217, 3) := by decide +kernel
theorem dX12_exact_119 : decode cX12_exact 119 = .ok (.invokestatic 242, 3) := by decide +kernel
theorem dX12_exact_122 : decode cX12_exact 122 = .ok (.lcmp, 1) := by decide +kernel
theorem dX12_exact_123 : decode cX12_exact 123 = .ok (.ifCond .ne 7, 3) := by decide +kernel
theorem dX12_exact_126 : decode cX12_exact 126 = .ok (.iconst 1, 1) := by decide +kernel
theorem dX12_exact_127 : decode cX12_exact 127 = .ok (.goto 4, 3) := by decide +kernel
theorem dX12_exact_130 : decode cX12_exact 130 = .ok (.iconst 0, 1) := by decide +kernel
theorem dX12_exact_131 : decode cX12_exact 131 = .ok (.iadd, 1) := by decide +kernel
theorem dX12_exact_132 : decode cX12_exact 132 = .ok (.istore 5, 2) := by decide +kernel
theorem dX12_exact_134 : decode cX12_exact 134 = .ok (.iinc 6 1, 3) := by decide +kernel
theorem dX12_exact_137 : decode cX12_exact 137 = .ok (.goto (-73), 3) := by decide +kernel
theorem dX12_exact_140 : decode cX12_exact 140 = .ok (.iload 5, 2) := by decide +kernel
theorem dX12_exact_142 : decode cX12_exact 142 = .ok (.ireturn, 1) := by decide +kernel
theorem dX12_alike_0 : decode cX12_alike 0 = .ok (.iload_n 1, 1) := by decide +kernel
theorem dX12_alike_1 : decode cX12_alike 1 = .ok (.invokestatic 190, 3) := by decide +kernel
theorem dX12_alike_4 : decode cX12_alike 4 = .ok (.ifCond .eq 10, 3) := by decide +kernel
theorem dX12_alike_7 : decode cX12_alike 7 = .ok (.iload_n 2, 1) := by decide +kernel
theorem dX12_alike_8 : decode cX12_alike 8 = .ok (.invokestatic 190, 3) := by decide +kernel
theorem dX12_alike_11 : decode cX12_alike 11 = .ok (.ifCond .ne 5, 3) := by decide +kernel
theorem dX12_alike_14 : decode cX12_alike 14 = .ok (.iconst (-1), 1) := by decide +kernel
theorem dX12_alike_15 : decode cX12_alike 15 = .ok (.ireturn, 1) := by decide +kernel
theorem dX12_alike_16 : decode cX12_alike 16 = .ok (.aload_n 0, 1) := by decide +kernel
theorem dX12_alike_17 : decode cX12_alike 17 = .ok (.getfield 80, 3) := by decide +kernel
theorem dX12_alike_20 : decode cX12_alike 20 = .ok (.iload_n 1, 1) := by decide +kernel
theorem dX12_alike_21 : decode cX12_alike 21 = .ok (.iaload, 1) := by decide +kernel
theorem dX12_alike_22 : decode cX12_alike 22 = .ok (.bipush (-11), 2) := by decide +kernel
theorem dX12_alike_24 : decode cX12_alike 24 = .ok (.if_icmp .eq 14, 3) := by decide +kernel
theorem dX12_alike_27 : decode cX12_alike 27 = .ok (.aload_n 0, 1) := by decide +kernel
theorem dX12_alike_28 : decode cX12_alike 28 = .ok (.getfield 80, 3) := by decide +kernel
theorem dX12_alike_31 : decode cX12_alike 31 = .ok (.iload_n 2, 1) := by decide +kernel
theorem dX12_alike_32 : decode cX12_alike 32 = .ok (.iaload, 1) := by decide +kernel
theorem dX12_alike_33 : decode cX12_alike 33 = .ok (.bipush (-11), 2) := by decide +kernel
theorem dX12_alike_35 : decode cX12_alike 35 = .ok (.if_icmp .ne 6, 3) := by decide +kernel
theorem dX12_alike_38 : decode cX12_alike 38 = .ok (.bipush (-11), 2) := by decide +kernel
theorem dX12_alike_40 : decode cX12_alike 40 = .ok (.ireturn, 1) := by decide +kernel
theorem dX12_alike_41 : decode cX12_alike 41 = .ok (.aload_n 0, 1) := by decide +kernel
theorem dX12_alike_42 : decode cX12_alike 42 = .ok (.iload_n 1, 1) := by decide +kernel
theorem dX12_alike_43 : decode cX12_alike 43 = .ok (.invokevirtual 199, 3) := by decide +kernel
theorem dX12_alike_46 : decode cX12_alike 46 = .ok (.ifCond .eq 11, 3) := by decide +kernel
theorem dX12_alike_49 : decode cX12_alike 49 = .ok (.aload_n 0, 1) := by decide +kernel
theorem dX12_alike_50 : decode cX12_alike 50 = .ok (.iload_n 2, 1) := by decide +kernel
theorem dX12_alike_51 : decode cX12_alike 51 = .ok (.invokevirtual 199, 3) := by decide +kernel
theorem dX12_alike_54 : decode cX12_alike 54 = .ok (.ifCond .ne 6, 3) := by decide +kernel
theorem dX12_alike_57 : decode cX12_alike 57 = .ok (.bipush (-12), 2) := by decide +kernel
theorem dX12_alike_59 : decode cX12_alike 59 = .ok (.ireturn, 1) := by decide +kernel
theorem dX12_alike_60 : decode cX12_alike 60 = .ok (.aload_n 0, 1) := by decide +kernel
theorem dX12_alike_61 : decode cX12_alike 61 = .ok (.getfield 80, 3) := by decide +kernel
theorem dX12_alike_64 : decode cX12_alike 64 = .ok (.iload_n 1, 1) := by decide +kernel
theorem dX12_alike_65 : decode cX12_alike 65 = .ok (.iaload, 1) := by decide +kernel
theorem dX12_alike_66 : decode cX12_alike 66 = .ok (.istore_n 3, 1) := by decide +kernel
theorem dX12_alike_67 : decode cX12_alike 67 = .ok (.aload_n 0, 1) := by decide +kernel
theorem dX12_alike_68 : decode cX12_alike 68 = .ok (.getfield 80, 3) := by decide +kernel
theorem dX12_alike_71 : decode cX12_alike 71 = .ok (.iload_n 2, 1) := by decide +kernel
theorem dX12_alike_72 : decode cX12_alike 72 = .ok (.iaload, 1) := by decide +kernel
theorem dX12_alike_73 : decode cX12_alike 73 = .ok (.istore 4, 2) := by decide +kernel
theorem dX12_alike_75 : decode cX12_alike 75 = .ok (.iconst 0, 1) := by decide +kernel
theorem dX12_alike_76 : decode cX12_alike 76 = .ok (.istore 5, 2) := by decide +kernel
theorem dX12_alike_78 : decode cX12_alike 78 = .ok (.iload 5, 2) := by decide +kernel
theorem dX12_alike_80 : decode cX12_alike 80 = .ok (.aload_n 0, 1) := by decide +kernel
theorem dX12_alike_81 : decode cX12_alike 81 = .ok (.getfield 67, 3) := by decide +kernel
theorem dX12_alike_84 : decode cX12_alike 84 = .ok (.iload_n 3, 1) := by decide +kernel
theorem dX12_alike_85 : decode cX12_alike 85 = .ok (.iaload, 1) := by decide +kernel
theorem dX12_alike_86 : decode cX12_alike 86 = .ok (.if_icmp .ge 77, 3) := by decide +kernel
theorem dX12_alike_89 : decode cX12_alike 89 = .ok (.iload 5, 2) := by decide +kernel
theorem dX12_alike_91 : decode cX12_alike 91 = .ok (.aload_n 0, 1) := by decide +kernel
theorem dX12_alike_92 : decode cX12_alike 92 = .ok (.getfield 67, 3) := by decide +kernel
theorem dX12_alike_95 : decode cX12_alike 95 = .ok (.iload 4, 2) := by decide +kernel
theorem dX12_alike_97 : decode cX12_alike 97 = .ok (.iaload, 1) := by decide +kernel
theorem dX12_alike_98 : decode cX12_alike 98 = .ok (.if_icmp .ge 65, 3) := by decide +kernel
theorem dX12_alike_101 : decode cX12_alike 101 = .ok (.aload_n 0, 1) := by decide +kernel
theorem dX12_alike_102 : decode cX12_alike 102 = .ok (.getfield 73, 3) := by decide +kernel
theorem dX12_alike_105 : decode cX12_alike 105 = .ok (.bipush 32, 2) := by decide +kernel
theorem dX12_alike_107 : decode cX12_alike 107 = .ok (.iload_n 3, 1) := by decide +kernel
theorem dX12_alike_108 : decode cX12_alike 108 = .ok (.imul, 1) := by decide +kernel
theorem dX12_alike_109 : decode cX12_alike 109 = .ok (.iload 5, 2) := by decide +kernel
theorem dX12_alike_111 : decode cX12_alike 111 = .ok (.iadd, 1) := by decide +kernel
theorem dX12_alike_112 : decode cX12_alike 112 = .ok (.iaload, 1) := by decide +kernel
theorem dX12_alike_113 : decode cX12_alike 113 = .ok (.aload_n 0, 1) := by decide +kernel
theorem dX12_alike_114 : decode cX12_alike 114 = .ok (.getfield 76, 3) := by decide +kernel
theorem dX12_alike_117 : decode cX12_alike 117 = .ok (.bipush 32, 2) := by decide +kernel
theorem dX12_alike_119 : decode cX12_alike 119 = .ok (.iload_n 3, 1) := by decide +kernel
theorem dX12_alike_120 : decode cX12_alike 120 = .ok (.imul, 1) := by decide +kernel
theorem dX12_alike_121 : decode cX12_alike 121 = .ok (.iload 5, 2) := by decide +kernel
theorem dX12_alike_123 : decode cX12_alike 123 = .ok (.iadd, 1) := by decide +kernel
theorem dX12_alike_124 : decode cX12_alike 124 = .ok (.laload, 1) := by decide +kernel
theorem dX12_alike_125 : decode cX12_alike 125 = .ok (.aload_n 0, 1) := by decide +kernel
theorem dX12_alike_126 : decode cX12_alike 126 = .ok (.getfield 73, 3) := by decide +kernel
theorem dX12_alike_129 : decode cX12_alike 129 = .ok (.bipush 32, 2) := by decide +kernel
theorem dX12_alike_131 : decode cX12_alike 131 = .ok (.iload 4, 2) := by decide +kernel
theorem dX12_alike_133 : decode cX12_alike 133 = .ok (.imul, 1) := by decide +kernel
theorem dX12_alike_134 : decode cX12_alike 134 = .ok (.iload 5, 2) := by decide +kernel
theorem dX12_alike_136 : decode cX12_alike 136 = .ok (.iadd, 1) := by decide +kernel
theorem dX12_alike_137 : decode cX12_alike 137 = .ok (.iaload, 1) := by decide +kernel
theorem dX12_alike_138 : decode cX12_alike 138 = .ok (.aload_n 0, 1) := by decide +kernel
theorem dX12_alike_139 : decode cX12_alike 139 = .ok (.getfield 76, 3) := by decide +kernel
theorem dX12_alike_142 : decode cX12_alike 142 = .ok (.bipush 32, 2) := by decide +kernel
theorem dX12_alike_144 : decode cX12_alike 144 = .ok (.iload 4, 2) := by decide +kernel
theorem dX12_alike_146 : decode cX12_alike 146 = .ok (.imul, 1) := by decide +kernel
theorem dX12_alike_147 : decode cX12_alike 147 = .ok (.iload 5, 2) := by decide +kernel
theorem dX12_alike_149 : decode cX12_alike 149 = .ok (.iadd, 1) := by decide +kernel
theorem dX12_alike_150 : decode cX12_alike 150 = .ok (.laload, 1) := by decide +kernel
theorem dX12_alike_151 : decode cX12_alike 151 = .ok (.invokestatic 299, 3) := by decide +kernel
theorem dX12_alike_154 : decode cX12_alike 154 = .ok (.ifCond .eq 9, 3) := by decide +kernel
theorem dX12_alike_157 : decode cX12_alike 157 = .ok (.iinc 5 1, 3) := by decide +kernel
theorem dX12_alike_160 : decode cX12_alike 160 = .ok (.goto (-82), 3) := by decide +kernel
theorem dX12_alike_163 : decode cX12_alike 163 = .ok (.iload 5, 2) := by decide +kernel
theorem dX12_alike_165 : decode cX12_alike 165 = .ok (.aload_n 0, 1) := by decide +kernel
theorem dX12_alike_166 : decode cX12_alike 166 = .ok (.getfield 67, 3) := by decide +kernel
theorem dX12_alike_169 : decode cX12_alike 169 = .ok (.iload_n 3, 1) := by decide +kernel
theorem dX12_alike_170 : decode cX12_alike 170 = .ok (.iaload, 1) := by decide +kernel
theorem dX12_alike_171 : decode cX12_alike 171 = .ok (.if_icmp .ne 20, 3) := by decide +kernel
theorem dX12_alike_174 : decode cX12_alike 174 = .ok (.iload 5, 2) := by decide +kernel
theorem dX12_alike_176 : decode cX12_alike 176 = .ok (.aload_n 0, 1) := by decide +kernel
theorem dX12_alike_177 : decode cX12_alike 177 = .ok (.getfield 67, 3) := by decide +kernel
theorem dX12_alike_180 : decode cX12_alike 180 = .ok (.iload 4, 2) := by decide +kernel
theorem dX12_alike_182 : decode cX12_alike 182 = .ok (.iaload, 1) := by decide +kernel
theorem dX12_alike_183 : decode cX12_alike 183 = .ok (.if_icmp .ne 8, 3) := by decide +kernel
theorem dX12_alike_186 : decode cX12_alike 186 = .ok (.bipush (-5), 2) := by decide +kernel
theorem dX12_alike_188 : decode cX12_alike 188 = .ok (.goto 5, 3) := by decide +kernel
theorem dX12_alike_191 : decode cX12_alike 191 = .ok (.iload 5, 2) := by decide +kernel
theorem dX12_alike_193 : decode cX12_alike 193 = .ok (.ireturn, 1) := by decide +kernel
theorem dX12_digestOf_0 : decode cX12_digestOf 0 = .ok (.aload_n 0, 1) := by decide +kernel
theorem dX12_digestOf_1 : decode cX12_digestOf 1 = .ok (.getfield 80, 3) := by decide +kernel
theorem dX12_digestOf_4 : decode cX12_digestOf 4 = .ok (.iload_n 1, 1) := by decide +kernel
theorem dX12_digestOf_5 : decode cX12_digestOf 5 = .ok (.iaload, 1) := by decide +kernel
theorem dX12_digestOf_6 : decode cX12_digestOf 6 = .ok (.bipush (-11), 2) := by decide +kernel
theorem dX12_digestOf_8 : decode cX12_digestOf 8 = .ok (.if_icmp .ne 7, 3) := by decide +kernel
theorem dX12_digestOf_11 : decode cX12_digestOf 11 = .ok (.ldc2_w 340, 3) := by decide +kernel
theorem dX12_digestOf_14 : decode cX12_digestOf 14 = .ok (.lreturn, 1) := by decide +kernel
theorem dX12_digestOf_15 : decode cX12_digestOf 15 = .ok (.aload_n 0, 1) := by decide +kernel
theorem dX12_digestOf_16 : decode cX12_digestOf 16 = .ok (.iload_n 1, 1) := by decide +kernel
theorem dX12_digestOf_17 : decode cX12_digestOf 17 = .ok (.invokevirtual 199, 3) := by decide +kernel
theorem dX12_digestOf_20 : decode cX12_digestOf 20 = .ok (.ifCond .ne 15, 3) := by decide +kernel
theorem dX12_digestOf_23 : decode cX12_digestOf 23 = .ok (.ldc2_w 342, 3) := by decide +kernel
theorem dX12_digestOf_26 : decode cX12_digestOf 26 = .ok (.aload_n 0, 1) := by decide +kernel
theorem dX12_digestOf_27 : decode cX12_digestOf 27 = .ok (.getfield 83, 3) := by decide +kernel
theorem dX12_digestOf_30 : decode cX12_digestOf 30 = .ok (.iload_n 1, 1) := by decide +kernel
theorem dX12_digestOf_31 : decode cX12_digestOf 31 = .ok (.iaload, 1) := by decide +kernel
theorem dX12_digestOf_32 : decode cX12_digestOf 32 = .ok (.i2l, 1) := by decide +kernel
theorem dX12_digestOf_33 : decode cX12_digestOf 33 = .ok (.ladd, 1) := by decide +kernel
theorem dX12_digestOf_34 : decode cX12_digestOf 34 = .ok (.lreturn, 1) := by decide +kernel
theorem dX12_digestOf_35 : decode cX12_digestOf 35 = .ok (.aload_n 0, 1) := by decide +kernel
theorem dX12_digestOf_36 : decode cX12_digestOf 36 = .ok (.getfield 80, 3) := by decide +kernel
theorem dX12_digestOf_39 : decode cX12_digestOf 39 = .ok (.iload_n 1, 1) := by decide +kernel
theorem dX12_digestOf_40 : decode cX12_digestOf 40 = .ok (.iaload, 1) := by decide +kernel
theorem dX12_digestOf_41 : decode cX12_digestOf 41 = .ok (.istore_n 2, 1) := by decide +kernel
theorem dX12_digestOf_42 : decode cX12_digestOf 42 = .ok (.ldc2_w 344, 3) := by decide +kernel
theorem dX12_digestOf_45 : decode cX12_digestOf 45 = .ok (.ldc2_w 346, 3) := by decide +kernel
theorem dX12_digestOf_48 : decode cX12_digestOf 48 = .ok (.aload_n 0, 1) := by decide +kernel
theorem dX12_digestOf_49 : decode cX12_digestOf 49 = .ok (.getfield 63, 3) := by decide +kernel
theorem dX12_digestOf_52 : decode cX12_digestOf 52 = .ok (.iload_n 2, 1) := by decide +kernel
theorem dX12_digestOf_53 : decode cX12_digestOf 53 = .ok (.iaload, 1) := by decide +kernel
theorem dX12_digestOf_54 : decode cX12_digestOf 54 = .ok (.i2l, 1) := by decide +kernel
theorem dX12_digestOf_55 : decode cX12_digestOf 55 = .ok (.ladd, 1) := by decide +kernel
theorem dX12_digestOf_56 : decode cX12_digestOf 56 = .ok (.lmul, 1) := by decide +kernel
theorem dX12_digestOf_57 : decode cX12_digestOf 57 = .ok (.aload_n 0, 1) := by decide +kernel
theorem dX12_digestOf_58 : decode cX12_digestOf 58 = .ok (.getfield 67, 3) := by decide +kernel
theorem dX12_digestOf_61 : decode cX12_digestOf 61 = .ok (.iload_n 2, 1) := by decide +kernel
theorem dX12_digestOf_62 : decode cX12_digestOf 62 = .ok (.iaload, 1) := by decide +kernel
theorem dX12_digestOf_63 : decode cX12_digestOf 63 = .ok (.i2l, 1) := by decide +kernel
theorem dX12_digestOf_64 : decode cX12_digestOf 64 = .ok (.ladd, 1) := by decide +kernel
theorem dX12_digestOf_65 : decode cX12_digestOf 65 = .ok (.lstore_n 3, 1) := by decide +kernel
theorem dX12_digestOf_66 : decode cX12_digestOf 66 = .ok (.iconst 0, 1) := by decide +kernel
theorem dX12_digestOf_67 : decode cX12_digestOf 67 = .ok (.istore 5, 2) := by decide +kernel
theorem dX12_digestOf_69 : decode cX12_digestOf 69 = .ok (.iload 5, 2) := by decide +kernel
theorem dX12_digestOf_71 : decode cX12_digestOf 71 = .ok (.aload_n 0, 1) := by decide +kernel
theorem dX12_digestOf_72 : decode cX12_digestOf 72 = .ok (.getfield 67, 3) := by decide +kernel
theorem dX12_digestOf_75 : decode cX12_digestOf 75 = .ok (.iload_n 2, 1) := by decide +kernel
theorem dX12_digestOf_76 : decode cX12_digestOf 76 = .ok (.iaload, 1) := by decide +kernel
theorem dX12_digestOf_77 : decode cX12_digestOf 77 = .ok (.if_icmp .ge 48, 3) := by decide +kernel
theorem dX12_digestOf_80 : decode cX12_digestOf 80 = .ok (.ldc2_w 344, 3) := by decide +kernel
theorem dX12_digestOf_83 : decode cX12_digestOf 83 = .ok (.lload_n 3, 1) := by decide +kernel
theorem dX12_digestOf_84 : decode cX12_digestOf 84 = .ok (.lmul, 1) := by decide +kernel
theorem dX12_digestOf_85 : decode cX12_digestOf 85 = .ok (.aload_n 0, 1) := by decide +kernel
theorem dX12_digestOf_86 : decode cX12_digestOf 86 = .ok (.getfield 73, 3) := by decide +kernel
theorem dX12_digestOf_89 : decode cX12_digestOf 89 = .ok (.bipush 32, 2) := by decide +kernel
theorem dX12_digestOf_91 : decode cX12_digestOf 91 = .ok (.iload_n 2, 1) := by decide +kernel
theorem dX12_digestOf_92 : decode cX12_digestOf 92 = .ok (.imul, 1) := by decide +kernel
theorem dX12_digestOf_93 : decode cX12_digestOf 93 = .ok (.iload 5, 2) := by decide +kernel
theorem dX12_digestOf_95 : decode cX12_digestOf 95 = .ok (.iadd, 1) := by decide +kernel
theorem dX12_digestOf_96 : decode cX12_digestOf 96 = .ok (.iaload, 1) := by decide +kernel
theorem dX12_digestOf_97 : decode cX12_digestOf 97 = .ok (.i2l, 1) := by decide +kernel
theorem dX12_digestOf_98 : decode cX12_digestOf 98 = .ok (.ladd, 1) := by decide +kernel
theorem dX12_digestOf_99 : decode cX12_digestOf 99 = .ok (.lstore_n 3, 1) := by decide +kernel
theorem dX12_digestOf_100 : decode cX12_digestOf 100 = .ok (.ldc2_w 344, 3) := by decide +kernel
theorem dX12_digestOf_103 : decode cX12_digestOf 103 = .ok (.lload_n 3, 1) := by decide +kernel
theorem dX12_digestOf_104 : decode cX12_digestOf 104 = .ok (.lmul, 1) := by decide +kernel
theorem dX12_digestOf_105 : decode cX12_digestOf 105 = .ok (.aload_n 0, 1) := by decide +kernel
theorem dX12_digestOf_106 : decode cX12_digestOf 106 = .ok (.getfield 76, 3) := by decide +kernel
theorem dX12_digestOf_109 : decode cX12_digestOf 109 = .ok (.bipush 32, 2) := by decide +kernel
theorem dX12_digestOf_111 : decode cX12_digestOf 111 = .ok (.iload_n 2, 1) := by decide +kernel
theorem dX12_digestOf_112 : decode cX12_digestOf 112 = .ok (.imul, 1) := by decide +kernel
theorem dX12_digestOf_113 : decode cX12_digestOf 113 = .ok (.iload 5, 2) := by decide +kernel
theorem dX12_digestOf_115 : decode cX12_digestOf 115 = .ok (.iadd, 1) := by decide +kernel
theorem dX12_digestOf_116 : decode cX12_digestOf 116 = .ok (.laload, 1) := by decide +kernel
theorem dX12_digestOf_117 : decode cX12_digestOf 117 = .ok (.ladd, 1) := by decide +kernel
theorem dX12_digestOf_118 : decode cX12_digestOf 118 = .ok (.lstore_n 3, 1) := by decide +kernel
theorem dX12_digestOf_119 : decode cX12_digestOf 119 = .ok (.iinc 5 1, 3) := by decide +kernel
theorem dX12_digestOf_122 : decode cX12_digestOf 122 = .ok (.goto (-53), 3) := by decide +kernel
theorem dX12_digestOf_125 : decode cX12_digestOf 125 = .ok (.lload_n 3, 1) := by decide +kernel
theorem dX12_digestOf_126 : decode cX12_digestOf 126 = .ok (.lreturn, 1) := by decide +kernel
theorem dX12_digest_0 : decode cX12_digest 0 = .ok (.iload_n 1, 1) := by decide +kernel
theorem dX12_digest_1 : decode cX12_digest 1 = .ok (.invokestatic 190, 3) := by decide +kernel
theorem dX12_digest_4 : decode cX12_digest 4 = .ok (.ifCond .eq 9, 3) := by decide +kernel
theorem dX12_digest_7 : decode cX12_digest 7 = .ok (.aload_n 0, 1) := by decide +kernel
theorem dX12_digest_8 : decode cX12_digest 8 = .ok (.iload_n 1, 1) := by decide +kernel
theorem dX12_digest_9 : decode cX12_digest 9 = .ok (.invokevirtual 348, 3) := by decide +kernel
theorem dX12_digest_12 : decode cX12_digest 12 = .ok (.lreturn, 1) := by decide +kernel
theorem dX12_digest_13 : decode cX12_digest 13 = .ok (.iload_n 1, 1) := by decide +kernel
theorem dX12_digest_14 : decode cX12_digest 14 = .ok (.iconst (-1), 1) := by decide +kernel
theorem dX12_digest_15 : decode cX12_digest 15 = .ok (.if_icmp .eq 7, 3) := by decide +kernel
theorem dX12_digest_18 : decode cX12_digest 18 = .ok (.ldc2_w 246, 3) := by decide +kernel
theorem dX12_digest_21 : decode cX12_digest 21 = .ok (.lreturn, 1) := by decide +kernel
theorem dX12_digest_22 : decode cX12_digest 22 = .ok (.lconst 1, 1) := by decide +kernel
theorem dX12_digest_23 : decode cX12_digest 23 = .ok (.lstore_n 2, 1) := by decide +kernel
theorem dX12_digest_24 : decode cX12_digest 24 = .ok (.iconst 0, 1) := by decide +kernel
theorem dX12_digest_25 : decode cX12_digest 25 = .ok (.istore 4, 2) := by decide +kernel
theorem dX12_digest_27 : decode cX12_digest 27 = .ok (.iload 4, 2) := by decide +kernel
theorem dX12_digest_29 : decode cX12_digest 29 = .ok (.bipush 10, 2) := by decide +kernel
theorem dX12_digest_31 : decode cX12_digest 31 = .ok (.if_icmp .ge 22, 3) := by decide +kernel
theorem dX12_digest_34 : decode cX12_digest 34 = .ok (.ldc2_w 344, 3) := by decide +kernel
theorem dX12_digest_37 : decode cX12_digest 37 = .ok (.lload_n 2, 1) := by decide +kernel
theorem dX12_digest_38 : decode cX12_digest 38 = .ok (.lmul, 1) := by decide +kernel
theorem dX12_digest_39 : decode cX12_digest 39 = .ok (.aload_n 0, 1) := by decide +kernel
theorem dX12_digest_40 : decode cX12_digest 40 = .ok (.iload 4, 2) := by decide +kernel
theorem dX12_digest_42 : decode cX12_digest 42 = .ok (.invokevirtual 348, 3) := by decide +kernel
theorem dX12_digest_45 : decode cX12_digest 45 = .ok (.ladd, 1) := by decide +kernel
theorem dX12_digest_46 : decode cX12_digest 46 = .ok (.lstore_n 2, 1) := by decide +kernel
theorem dX12_digest_47 : decode cX12_digest 47 = .ok (.iinc 4 1, 3) := by decide +kernel
theorem dX12_digest_50 : decode cX12_digest 50 = .ok (.goto (-23), 3) := by decide +kernel
theorem dX12_digest_53 : decode cX12_digest 53 = .ok (.lload_n 2, 1) := by decide +kernel
theorem dX12_digest_54 : decode cX12_digest 54 = .ok (.lreturn, 1) := by decide +kernel
theorem dX12_spells_0 : decode cX12_spells 0 = .ok (.aload_n 0, 1) := by decide +kernel
theorem dX12_spells_1 : decode cX12_spells 1 = .ok (.getfield 128, 3) := by decide +kernel
theorem dX12_spells_4 : decode cX12_spells 4 = .ok (.aload_n 0, 1) := by decide +kernel
theorem dX12_spells_5 : decode cX12_spells 5 = .ok (.getfield 352, 3) := by decide +kernel
theorem dX12_spells_8 : decode cX12_spells 8 = .ok (.iload_n 1, 1) := by decide +kernel
theorem dX12_spells_9 : decode cX12_spells 9 = .ok (.iastore, 1) := by decide +kernel
theorem dX12_spells_10 : decode cX12_spells 10 = .ok (.aload_n 0, 1) := by decide +kernel
theorem dX12_spells_11 : decode cX12_spells 11 = .ok (.dup, 1) := by decide +kernel
theorem dX12_spells_12 : decode cX12_spells 12 = .ok (.getfield 352, 3) := by decide +kernel
theorem dX12_spells_15 : decode cX12_spells 15 = .ok (.iconst 1, 1) := by decide +kernel
theorem dX12_spells_16 : decode cX12_spells 16 = .ok (.iadd, 1) := by decide +kernel
theorem dX12_spells_17 : decode cX12_spells 17 = .ok (.putfield 352, 3) := by decide +kernel
theorem dX12_spells_20 : decode cX12_spells 20 = .ok (.return_, 1) := by decide +kernel
theorem dX12_spellsNumber_0 : decode cX12_spellsNumber 0 = .ok (.lload_n 1, 1) := by decide +kernel
theorem dX12_spellsNumber_1 : decode cX12_spellsNumber 1 = .ok (.lconst 0, 1) := by decide +kernel
theorem dX12_spellsNumber_2 : decode cX12_spellsNumber 2 = .ok (.lcmp, 1) := by decide +kernel
theorem dX12_spellsNumber_3 : decode cX12_spellsNumber 3 = .ok (.ifCond .ge 9, 3) := by decide +kernel
theorem dX12_spellsNumber_6 : decode cX12_spellsNumber 6 = .ok (.aload_n 0, 1) := by decide +kernel
theorem dX12_spellsNumber_7 : decode cX12_spellsNumber 7 = .ok (.bipush 45, 2) := by decide +kernel
theorem dX12_spellsNumber_9 : decode cX12_spellsNumber 9 = .ok (.invokevirtual 355, 3) := by decide +kernel
theorem dX12_spellsNumber_12 : decode cX12_spellsNumber 12 = .ok (.iconst 0, 1) := by decide +kernel
theorem dX12_spellsNumber_13 : decode cX12_spellsNumber 13 = .ok (.istore_n 3, 1) := by decide +kernel
theorem dX12_spellsNumber_14 : decode cX12_spellsNumber 14 = .ok (.lload_n 1, 1) := by decide +kernel
theorem dX12_spellsNumber_15 : decode cX12_spellsNumber 15 = .ok (.lstore 4, 2) := by decide +kernel
theorem dX12_spellsNumber_17 : decode cX12_spellsNumber 17 = .ok (.lload 4, 2) := by decide +kernel
theorem dX12_spellsNumber_19 : decode cX12_spellsNumber 19 = .ok (.ldc2_w 263, 3) := by decide +kernel
theorem dX12_spellsNumber_22 : decode cX12_spellsNumber 22 = .ok (.lrem, 1) := by decide +kernel
theorem dX12_spellsNumber_23 : decode cX12_spellsNumber 23 = .ok (.lstore 6, 2) := by decide +kernel
theorem dX12_spellsNumber_25 : decode cX12_spellsNumber 25 = .ok (.aload_n 0, 1) := by decide +kernel
theorem dX12_spellsNumber_26 : decode cX12_spellsNumber 26 = .ok (.getfield 131, 3) := by decide +kernel
theorem dX12_spellsNumber_29 : decode cX12_spellsNumber 29 = .ok (.iload_n 3, 1) := by decide +kernel
theorem dX12_spellsNumber_30 : decode cX12_spellsNumber 30 = .ok (.bipush 48, 2) := by decide +kernel
theorem dX12_spellsNumber_32 : decode cX12_spellsNumber 32 = .ok (.lload 6, 2) := by decide +kernel
theorem dX12_spellsNumber_34 : decode cX12_spellsNumber 34 = .ok (.lconst 0, 1) := by decide +kernel
theorem dX12_spellsNumber_35 : decode cX12_spellsNumber 35 = .ok (.lcmp, 1) := by decide +kernel
theorem dX12_spellsNumber_36 : decode cX12_spellsNumber 36 = .ok (.ifCond .ge 9, 3) := by decide +kernel
theorem dX12_spellsNumber_39 : decode cX12_spellsNumber 39 = .ok (.lload 6, 2) := by decide +kernel
theorem dX12_spellsNumber_41 : decode cX12_spellsNumber 41 = .ok (.lneg, 1) := by decide +kernel
theorem dX12_spellsNumber_42 : decode cX12_spellsNumber 42 = .ok (.goto 5, 3) := by decide +kernel
theorem dX12_spellsNumber_45 : decode cX12_spellsNumber 45 = .ok (.lload 6, 2) := by decide +kernel
theorem dX12_spellsNumber_47 : decode cX12_spellsNumber 47 = .ok (.l2i, 1) := by decide +kernel
theorem dX12_spellsNumber_48 : decode cX12_spellsNumber 48 = .ok (.iadd, 1) := by decide +kernel
theorem dX12_spellsNumber_49 : decode cX12_spellsNumber 49 = .ok (.iastore, 1) := by decide +kernel
theorem dX12_spellsNumber_50 : decode cX12_spellsNumber 50 = .ok (.iinc 3 1, 3) := by decide +kernel
theorem dX12_spellsNumber_53 : decode cX12_spellsNumber 53 = .ok (.lload 4, 2) := by decide +kernel
theorem dX12_spellsNumber_55 : decode cX12_spellsNumber 55 = .ok (.ldc2_w 263, 3) := by decide +kernel
theorem dX12_spellsNumber_58 : decode cX12_spellsNumber 58 = .ok (.ldiv, 1) := by decide +kernel
theorem dX12_spellsNumber_59 : decode cX12_spellsNumber 59 = .ok (.lstore 4, 2) := by decide +kernel
theorem dX12_spellsNumber_61 : decode cX12_spellsNumber 61 = .ok (.lload 4, 2) := by decide +kernel
theorem dX12_spellsNumber_63 : decode cX12_spellsNumber 63 = .ok (.lconst 0, 1) := by decide +kernel
theorem dX12_spellsNumber_64 : decode cX12_spellsNumber 64 = .ok (.lcmp, 1) := by decide +kernel
theorem dX12_spellsNumber_65 : decode cX12_spellsNumber 65 = .ok (.ifCond .ne (-48), 3) := by decide +kernel
theorem dX12_spellsNumber_68 : decode cX12_spellsNumber 68 = .ok (.iload_n 3, 1) := by decide +kernel
theorem dX12_spellsNumber_69 : decode cX12_spellsNumber 69 = .ok (.ifCond .le 19, 3) := by decide +kernel
theorem dX12_spellsNumber_72 : decode cX12_spellsNumber 72 = .ok (.iinc 3 (-1), 3) := by decide +kernel
theorem dX12_spellsNumber_75 : decode cX12_spellsNumber 75 = .ok (.aload_n 0, 1) := by decide +kernel
theorem dX12_spellsNumber_76 : decode cX12_spellsNumber 76 = .ok (.aload_n 0, 1) := by decide +kernel
theorem dX12_spellsNumber_77 : decode cX12_spellsNumber 77 = .ok (.getfield 131, 3) := by decide +kernel
theorem dX12_spellsNumber_80 : decode cX12_spellsNumber 80 = .ok (.iload_n 3, 1) := by decide +kernel
theorem dX12_spellsNumber_81 : decode cX12_spellsNumber 81 = .ok (.iaload, 1) := by decide +kernel
theorem dX12_spellsNumber_82 : decode cX12_spellsNumber 82 = .ok (.invokevirtual 355, 3) := by decide +kernel
theorem dX12_spellsNumber_85 : decode cX12_spellsNumber 85 = .ok (.goto (-17), 3) := by decide +kernel
theorem dX12_spellsNumber_88 : decode cX12_spellsNumber 88 = .ok (.return_, 1) := by decide +kernel
theorem dX12_spell_0 : decode cX12_spell 0 = .ok (.aload_n 0, 1) := by decide +kernel
theorem dX12_spell_1 : decode cX12_spell 1 = .ok (.iload_n 1, 1) := by decide +kernel
theorem dX12_spell_2 : decode cX12_spell 2 = .ok (.invokevirtual 337, 3) := by decide +kernel
theorem dX12_spell_5 : decode cX12_spell 5 = .ok (.istore_n 2, 1) := by decide +kernel
theorem dX12_spell_6 : decode cX12_spell 6 = .ok (.iload_n 2, 1) := by decide +kernel
theorem dX12_spell_7 : decode cX12_spell 7 = .ok (.ifCond .eq 5, 3) := by decide +kernel
theorem dX12_spell_10 : decode cX12_spell 10 = .ok (.iload_n 2, 1) := by decide +kernel
theorem dX12_spell_11 : decode cX12_spell 11 = .ok (.ireturn, 1) := by decide +kernel
theorem dX12_spell_12 : decode cX12_spell 12 = .ok (.aload_n 0, 1) := by decide +kernel
theorem dX12_spell_13 : decode cX12_spell 13 = .ok (.getfield 80, 3) := by decide +kernel
theorem dX12_spell_16 : decode cX12_spell 16 = .ok (.iload_n 1, 1) := by decide +kernel
theorem dX12_spell_17 : decode cX12_spell 17 = .ok (.iaload, 1) := by decide +kernel
theorem dX12_spell_18 : decode cX12_spell 18 = .ok (.istore_n 3, 1) := by decide +kernel
theorem dX12_spell_19 : decode cX12_spell 19 = .ok (.aload_n 0, 1) := by decide +kernel
theorem dX12_spell_20 : decode cX12_spell 20 = .ok (.iconst 0, 1) := by decide +kernel
theorem dX12_spell_21 : decode cX12_spell 21 = .ok (.putfield 352, 3) := by decide +kernel
theorem dX12_spell_24 : decode cX12_spell 24 = .ok (.aload_n 0, 1) := by decide +kernel
theorem dX12_spell_25 : decode cX12_spell 25 = .ok (.aload_n 0, 1) := by decide +kernel
theorem dX12_spell_26 : decode cX12_spell 26 = .ok (.getfield 134, 3) := by decide +kernel
theorem dX12_spell_29 : decode cX12_spell 29 = .ok (.aload_n 0, 1) := by decide +kernel
theorem dX12_spell_30 : decode cX12_spell 30 = .ok (.getfield 63, 3) := by decide +kernel
theorem dX12_spell_33 : decode cX12_spell 33 = .ok (.iload_n 3, 1) := by decide +kernel
theorem dX12_spell_34 : decode cX12_spell 34 = .ok (.iaload, 1) := by decide +kernel
theorem dX12_spell_35 : decode cX12_spell 35 = .ok (.iaload, 1) := by decide +kernel
theorem dX12_spell_36 : decode cX12_spell 36 = .ok (.invokevirtual 355, 3) := by decide +kernel
theorem dX12_spell_39 : decode cX12_spell 39 = .ok (.bipush 32, 2) := by decide +kernel
theorem dX12_spell_41 : decode cX12_spell 41 = .ok (.iload_n 3, 1) := by decide +kernel
theorem dX12_spell_42 : decode cX12_spell 42 = .ok (.imul, 1) := by decide +kernel
theorem dX12_spell_43 : decode cX12_spell 43 = .ok (.istore 4, 2) := by decide +kernel
theorem dX12_spell_45 : decode cX12_spell 45 = .ok (.iload 4, 2) := by decide +kernel
theorem dX12_spell_47 : decode cX12_spell 47 = .ok (.bipush 32, 2) := by decide +kernel
theorem dX12_spell_49 : decode cX12_spell 49 = .ok (.iload_n 3, 1) := by decide +kernel
theorem dX12_spell_50 : decode cX12_spell 50 = .ok (.imul, 1) := by decide +kernel
theorem dX12_spell_51 : decode cX12_spell 51 = .ok (.aload_n 0, 1) := by decide +kernel
theorem dX12_spell_52 : decode cX12_spell 52 = .ok (.getfield 67, 3) := by decide +kernel
theorem dX12_spell_55 : decode cX12_spell 55 = .ok (.iload_n 3, 1) := by decide +kernel
theorem dX12_spell_56 : decode cX12_spell 56 = .ok (.iaload, 1) := by decide +kernel
theorem dX12_spell_57 : decode cX12_spell 57 = .ok (.iadd, 1) := by decide +kernel
theorem dX12_spell_58 : decode cX12_spell 58 = .ok (.if_icmp .ge 82, 3) := by decide +kernel
theorem dX12_spell_61 : decode cX12_spell 61 = .ok (.aload_n 0, 1) := by decide +kernel
theorem dX12_spell_62 : decode cX12_spell 62 = .ok (.bipush 32, 2) := by decide +kernel
theorem dX12_spell_64 : decode cX12_spell 64 = .ok (.invokevirtual 355, 3) := by decide +kernel
theorem dX12_spell_67 : decode cX12_spell 67 = .ok (.aload_n 0, 1) := by decide +kernel
theorem dX12_spell_68 : decode cX12_spell 68 = .ok (.getfield 73, 3) := by decide +kernel
theorem dX12_spell_71 : decode cX12_spell 71 = .ok (.iload 4, 2) := by decide +kernel
theorem dX12_spell_73 : decode cX12_spell 73 = .ok (.iaload, 1) := by decide +kernel
theorem dX12_spell_74 : decode cX12_spell 74 = .ok (.bipush 8, 2) := by decide +kernel
theorem dX12_spell_76 : decode cX12_spell 76 = .ok (.if_icmp .ne 12, 3) := by decide +kernel
theorem dX12_spell_79 : decode cX12_spell 79 = .ok (.aload_n 0, 1) := by decide +kernel
theorem dX12_spell_80 : decode cX12_spell 80 = .ok (.bipush 45, 2) := by decide +kernel
theorem dX12_spell_82 : decode cX12_spell 82 = .ok (.invokevirtual 355, 3) := by decide +kernel
theorem dX12_spell_85 : decode cX12_spell 85 = .ok (.goto 49, 3) := by decide +kernel
theorem dX12_spell_88 : decode cX12_spell 88 = .ok (.aload_n 0, 1) := by decide +kernel
theorem dX12_spell_89 : decode cX12_spell 89 = .ok (.getfield 73, 3) := by decide +kernel
theorem dX12_spell_92 : decode cX12_spell 92 = .ok (.iload 4, 2) := by decide +kernel
theorem dX12_spell_94 : decode cX12_spell 94 = .ok (.iaload, 1) := by decide +kernel
theorem dX12_spell_95 : decode cX12_spell 95 = .ok (.bipush 8, 2) := by decide +kernel
theorem dX12_spell_97 : decode cX12_spell 97 = .ok (.if_icmp .le 26, 3) := by decide +kernel
theorem dX12_spell_100 : decode cX12_spell 100 = .ok (.aload_n 0, 1) := by decide +kernel
theorem dX12_spell_101 : decode cX12_spell 101 = .ok (.aload_n 0, 1) := by decide +kernel
theorem dX12_spell_102 : decode cX12_spell 102 = .ok (.getfield 73, 3) := by decide +kernel
theorem dX12_spell_105 : decode cX12_spell 105 = .ok (.iload 4, 2) := by decide +kernel
theorem dX12_spell_107 : decode cX12_spell 107 = .ok (.iaload, 1) := by decide +kernel
theorem dX12_spell_108 : decode cX12_spell 108 = .ok (.bipush 9, 2) := by decide +kernel
theorem dX12_spell_110 : decode cX12_spell 110 = .ok (.if_icmp .ne 8, 3) := by decide +kernel
theorem dX12_spell_113 : decode cX12_spell 113 = .ok (.bipush 108, 2) := by decide +kernel
theorem dX12_spell_115 : decode cX12_spell 115 = .ok (.goto 5, 3) := by decide +kernel
theorem dX12_spell_118 : decode cX12_spell 118 = .ok (.bipush 119, 2) := by decide +kernel
theorem dX12_spell_120 : decode cX12_spell 120 = .ok (.invokevirtual 355, 3) := by decide +kernel
theorem dX12_spell_123 : decode cX12_spell 123 = .ok (.aload_n 0, 1) := by decide +kernel
theorem dX12_spell_124 : decode cX12_spell 124 = .ok (.aload_n 0, 1) := by decide +kernel
theorem dX12_spell_125 : decode cX12_spell 125 = .ok (.getfield 76, 3) := by decide +kernel
theorem dX12_spell_128 : decode cX12_spell 128 = .ok (.iload 4, 2) := by decide +kernel
theorem dX12_spell_130 : decode cX12_spell 130 = .ok (.laload, 1) := by decide +kernel
theorem dX12_spell_131 : decode cX12_spell 131 = .ok (.invokevirtual 358, 3) := by decide +kernel
theorem dX12_spell_134 : decode cX12_spell 134 = .ok (.iinc 4 1, 3) := by decide +kernel
theorem dX12_spell_137 : decode cX12_spell 137 = .ok (.goto (-92), 3) := by decide +kernel
theorem dX12_spell_140 : decode cX12_spell 140 = .ok (.aload_n 0, 1) := by decide +kernel
theorem dX12_spell_141 : decode cX12_spell 141 = .ok (.getfield 352, 3) := by decide +kernel
theorem dX12_spell_144 : decode cX12_spell 144 = .ok (.ireturn, 1) := by decide +kernel
theorem dX12_paper_0 : decode cX12_paper 0 = .ok (.iload_n 1, 1) := by decide +kernel
theorem dX12_paper_1 : decode cX12_paper 1 = .ok (.i2l, 1) := by decide +kernel
theorem dX12_paper_2 : decode cX12_paper 2 = .ok (.lconst 0, 1) := by decide +kernel
theorem dX12_paper_3 : decode cX12_paper 3 = .ok (.aload_n 0, 1) := by decide +kernel
theorem dX12_paper_4 : decode cX12_paper 4 = .ok (.getfield 352, 3) := by decide +kernel
theorem dX12_paper_7 : decode cX12_paper 7 = .ok (.iconst 1, 1) := by decide +kernel
theorem dX12_paper_8 : decode cX12_paper 8 = .ok (.isub, 1) := by decide +kernel
theorem dX12_paper_9 : decode cX12_paper 9 = .ok (.i2l, 1) := by decide +kernel
theorem dX12_paper_10 : decode cX12_paper 10 = .ok (.invokestatic 15, 3) := by decide +kernel
theorem dX12_paper_13 : decode cX12_paper 13 = .ok (.ifCond .eq 12, 3) := by decide +kernel
theorem dX12_paper_16 : decode cX12_paper 16 = .ok (.aload_n 0, 1) := by decide +kernel
theorem dX12_paper_17 : decode cX12_paper 17 = .ok (.getfield 128, 3) := by decide +kernel
theorem dX12_paper_20 : decode cX12_paper 20 = .ok (.iload_n 1, 1) := by decide +kernel
theorem dX12_paper_21 : decode cX12_paper 21 = .ok (.iaload, 1) := by decide +kernel
theorem dX12_paper_22 : decode cX12_paper 22 = .ok (.goto 4, 3) := by decide +kernel
theorem dX12_paper_25 : decode cX12_paper 25 = .ok (.iconst (-1), 1) := by decide +kernel
theorem dX12_paper_26 : decode cX12_paper 26 = .ok (.ireturn, 1) := by decide +kernel
theorem dX12_feed_0 : decode cX12_feed 0 = .ok (.iload_n 1, 1) := by decide +kernel
theorem dX12_feed_1 : decode cX12_feed 1 = .ok (.i2l, 1) := by decide +kernel
theorem dX12_feed_2 : decode cX12_feed 2 = .ok (.lconst 1, 1) := by decide +kernel
theorem dX12_feed_3 : decode cX12_feed 3 = .ok (.ldc2_w 362, 3) := by decide +kernel
theorem dX12_feed_6 : decode cX12_feed 6 = .ok (.invokestatic 15, 3) := by decide +kernel
theorem dX12_feed_9 : decode cX12_feed 9 = .ok (.ifCond .ne 6, 3) := by decide +kernel
theorem dX12_feed_12 : decode cX12_feed 12 = .ok (.bipush (-2), 2) := by decide +kernel
theorem dX12_feed_14 : decode cX12_feed 14 = .ok (.ireturn, 1) := by decide +kernel
theorem dX12_feed_15 : decode cX12_feed 15 = .ok (.aload_n 0, 1) := by decide +kernel
theorem dX12_feed_16 : decode cX12_feed 16 = .ok (.getfield 364, 3) := by decide +kernel
theorem dX12_feed_19 : decode cX12_feed 19 = .ok (.bipush 120, 2) := by decide +kernel
theorem dX12_feed_21 : decode cX12_feed 21 = .ok (.if_icmp .ne 6, 3) := by decide +kernel
theorem dX12_feed_24 : decode cX12_feed 24 = .ok (.bipush (-4), 2) := by decide +kernel
theorem dX12_feed_26 : decode cX12_feed 26 = .ok (.ireturn, 1) := by decide +kernel
theorem dX12_feed_27 : decode cX12_feed 27 = .ok (.aload_n 0, 1) := by decide +kernel
theorem dX12_feed_28 : decode cX12_feed 28 = .ok (.getfield 137, 3) := by decide +kernel
theorem dX12_feed_31 : decode cX12_feed 31 = .ok (.aload_n 0, 1) := by decide +kernel
theorem dX12_feed_32 : decode cX12_feed 32 = .ok (.getfield 364, 3) := by decide +kernel
theorem dX12_feed_35 : decode cX12_feed 35 = .ok (.iload_n 1, 1) := by decide +kernel
theorem dX12_feed_36 : decode cX12_feed 36 = .ok (.iastore, 1) := by decide +kernel
theorem dX12_feed_37 : decode cX12_feed 37 = .ok (.aload_n 0, 1) := by decide +kernel
theorem dX12_feed_38 : decode cX12_feed 38 = .ok (.dup, 1) := by decide +kernel
theorem dX12_feed_39 : decode cX12_feed 39 = .ok (.getfield 364, 3) := by decide +kernel
theorem dX12_feed_42 : decode cX12_feed 42 = .ok (.iconst 1, 1) := by decide +kernel
theorem dX12_feed_43 : decode cX12_feed 43 = .ok (.iadd, 1) := by decide +kernel
theorem dX12_feed_44 : decode cX12_feed 44 = .ok (.putfield 364, 3) := by decide +kernel
theorem dX12_feed_47 : decode cX12_feed 47 = .ok (.aload_n 0, 1) := by decide +kernel
theorem dX12_feed_48 : decode cX12_feed 48 = .ok (.getfield 364, 3) := by decide +kernel
theorem dX12_feed_51 : decode cX12_feed 51 = .ok (.ireturn, 1) := by decide +kernel
theorem dX12_isAt_0 : decode cX12_isAt 0 = .ok (.aload_n 0, 1) := by decide +kernel
theorem dX12_isAt_1 : decode cX12_isAt 1 = .ok (.getfield 367, 3) := by decide +kernel
theorem dX12_isAt_4 : decode cX12_isAt 4 = .ok (.ifCond .ge 31, 3) := by decide +kernel
theorem dX12_isAt_7 : decode cX12_isAt 7 = .ok (.aload_n 0, 1) := by decide +kernel
theorem dX12_isAt_8 : decode cX12_isAt 8 = .ok (.getfield 370, 3) := by decide +kernel
theorem dX12_isAt_11 : decode cX12_isAt 11 = .ok (.aload_n 0, 1) := by decide +kernel
theorem dX12_isAt_12 : decode cX12_isAt 12 = .ok (.getfield 364, 3) := by decide +kernel
theorem dX12_isAt_15 : decode cX12_isAt 15 = .ok (.if_icmp .ge 20, 3) := by decide +kernel
theorem dX12_isAt_18 : decode cX12_isAt 18 = .ok (.aload_n 0, 1) := by decide +kernel
theorem dX12_isAt_19 : decode cX12_isAt 19 = .ok (.getfield 137, 3) := by decide +kernel
theorem dX12_isAt_22 : decode cX12_isAt 22 = .ok (.aload_n 0, 1) := by decide +kernel
theorem dX12_isAt_23 : decode cX12_isAt 23 = .ok (.getfield 370, 3) := by decide +kernel
theorem dX12_isAt_26 : decode cX12_isAt 26 = .ok (.iaload, 1) := by decide +kernel
theorem dX12_isAt_27 : decode cX12_isAt 27 = .ok (.iload_n 1, 1) := by decide +kernel
theorem dX12_isAt_28 : decode cX12_isAt 28 = .ok (.if_icmp .ne 7, 3) := by decide +kernel
theorem dX12_isAt_31 : decode cX12_isAt 31 = .ok (.iconst 1, 1) := by decide +kernel
theorem dX12_isAt_32 : decode cX12_isAt 32 = .ok (.goto 4, 3) := by decide +kernel
theorem dX12_isAt_35 : decode cX12_isAt 35 = .ok (.iconst 0, 1) := by decide +kernel
theorem dX12_isAt_36 : decode cX12_isAt 36 = .ok (.ireturn, 1) := by decide +kernel
theorem dX12_takes__0 : decode cX12_takes_ 0 = .ok (.aload_n 0, 1) := by decide +kernel
theorem dX12_takes__1 : decode cX12_takes_ 1 = .ok (.iload_n 1, 1) := by decide +kernel
theorem dX12_takes__2 : decode cX12_takes_ 2 = .ok (.invokevirtual 373, 3) := by decide +kernel
theorem dX12_takes__5 : decode cX12_takes_ 5 = .ok (.istore_n 2, 1) := by decide +kernel
theorem dX12_takes__6 : decode cX12_takes_ 6 = .ok (.aload_n 0, 1) := by decide +kernel
theorem dX12_takes__7 : decode cX12_takes_ 7 = .ok (.dup, 1) := by decide +kernel
theorem dX12_takes__8 : decode cX12_takes_ 8 = .ok (.getfield 370, 3) := by decide +kernel
theorem dX12_takes__11 : decode cX12_takes_ 11 = .ok (.iload_n 2, 1) := by decide +kernel
theorem dX12_takes__12 : decode cX12_takes_ 12 = .ok (.ifCond .eq 7, 3) := by decide +kernel
theorem dX12_takes__15 : decode cX12_takes_ 15 = .ok (.iconst 1, 1) := by decide +kernel
theorem dX12_takes__16 : decode cX12_takes_ 16 = .ok (.goto 4, 3) := by decide +kernel
theorem dX12_takes__19 : decode cX12_takes_ 19 = .ok (.iconst 0, 1) := by decide +kernel
theorem dX12_takes__20 : decode cX12_takes_ 20 = .ok (.iadd, 1) := by decide +kernel
theorem dX12_takes__21 : decode cX12_takes_ 21 = .ok (.putfield 370, 3) := by decide +kernel
theorem dX12_takes__24 : decode cX12_takes_ 24 = .ok (.iload_n 2, 1) := by decide +kernel
theorem dX12_takes__25 : decode cX12_takes_ 25 = .ok (.ireturn, 1) := by decide +kernel
theorem dX12_faulty_0 : decode cX12_faulty 0 = .ok (.aload_n 0, 1) := by decide +kernel
theorem dX12_faulty_1 : decode cX12_faulty 1 = .ok (.aload_n 0, 1) := by decide +kernel
theorem dX12_faulty_2 : decode cX12_faulty 2 = .ok (.getfield 367, 3) := by decide +kernel
theorem dX12_faulty_5 : decode cX12_faulty 5 = .ok (.ifCond .ge 10, 3) := by decide +kernel
theorem dX12_faulty_8 : decode cX12_faulty 8 = .ok (.aload_n 0, 1) := by decide +kernel
theorem dX12_faulty_9 : decode cX12_faulty 9 = .ok (.getfield 370, 3) := by decide +kernel
theorem dX12_faulty_12 : decode cX12_faulty 12 = .ok (.goto 7, 3) := by decide +kernel
theorem dX12_faulty_15 : decode cX12_faulty 15 = .ok (.aload_n 0, 1) := by decide +kernel
theorem dX12_faulty_16 : decode cX12_faulty 16 = .ok (.getfield 367, 3) := by decide +kernel
theorem dX12_faulty_19 : decode cX12_faulty 19 = .ok (.putfield 367, 3) := by decide +kernel
theorem dX12_faulty_22 : decode cX12_faulty 22 = .ok (.return_, 1) := by decide +kernel
theorem dX12_wants_0 : decode cX12_wants 0 = .ok (.aload_n 0, 1) := by decide +kernel
theorem dX12_wants_1 : decode cX12_wants 1 = .ok (.iload_n 1, 1) := by decide +kernel
theorem dX12_wants_2 : decode cX12_wants 2 = .ok (.invokevirtual 376, 3) := by decide +kernel
theorem dX12_wants_5 : decode cX12_wants 5 = .ok (.ifCond .ne 7, 3) := by decide +kernel
theorem dX12_wants_8 : decode cX12_wants 8 = .ok (.aload_n 0, 1) := by decide +kernel
theorem dX12_wants_9 : decode cX12_wants 9 = .ok (.invokevirtual 379, 3) := by decide +kernel
theorem dX12_wants_12 : decode cX12_wants 12 = .ok (.return_, 1) := by decide +kernel
theorem dX12_isFigure_0 : decode cX12_isFigure 0 = .ok (.aload_n 0, 1) := by decide +kernel
theorem dX12_isFigure_1 : decode cX12_isFigure 1 = .ok (.getfield 367, 3) := by decide +kernel
theorem dX12_isFigure_4 : decode cX12_isFigure 4 = .ok (.ifCond .ge 40, 3) := by decide +kernel
theorem dX12_isFigure_7 : decode cX12_isFigure 7 = .ok (.aload_n 0, 1) := by decide +kernel
theorem dX12_isFigure_8 : decode cX12_isFigure 8 = .ok (.getfield 370, 3) := by decide +kernel
theorem dX12_isFigure_11 : decode cX12_isFigure 11 = .ok (.aload_n 0, 1) := by decide +kernel
theorem dX12_isFigure_12 : decode cX12_isFigure 12 = .ok (.getfield 364, 3) := by decide +kernel
theorem dX12_isFigure_15 : decode cX12_isFigure 15 = .ok (.if_icmp .ge 29, 3) := by decide +kernel
theorem dX12_isFigure_18 : decode cX12_isFigure 18 = .ok (.aload_n 0, 1) := by decide +kernel
theorem dX12_isFigure_19 : decode cX12_isFigure 19 = .ok (.getfield 137, 3) := by decide +kernel
theorem dX12_isFigure_22 : decode cX12_isFigure 22 = .ok (.aload_n 0, 1) := by decide +kernel
theorem dX12_isFigure_23 : decode cX12_isFigure 23 = .ok (.getfield 370, 3) := by decide +kernel
theorem dX12_isFigure_26 : decode cX12_isFigure 26 = .ok (.iaload, 1) := by decide +kernel
theorem dX12_isFigure_27 : decode cX12_isFigure 27 = .ok (.i2l, 1) := by decide +kernel
theorem dX12_isFigure_28 : decode cX12_isFigure 28 = .ok (.ldc2_w 382, 3) := by decide +kernel
theorem dX12_isFigure_31 : decode cX12_isFigure 31 = .ok (.ldc2_w 384, 3) := by decide +kernel
theorem dX12_isFigure_34 : decode cX12_isFigure 34 = .ok (.invokestatic 15, 3) := by decide +kernel
theorem dX12_isFigure_37 : decode cX12_isFigure 37 = .ok (.ifCond .eq 7, 3) := by decide +kernel
theorem dX12_isFigure_40 : decode cX12_isFigure 40 = .ok (.iconst 1, 1) := by decide +kernel
theorem dX12_isFigure_41 : decode cX12_isFigure 41 = .ok (.goto 4, 3) := by decide +kernel
theorem dX12_isFigure_44 : decode cX12_isFigure 44 = .ok (.iconst 0, 1) := by decide +kernel
theorem dX12_isFigure_45 : decode cX12_isFigure 45 = .ok (.ireturn, 1) := by decide +kernel
theorem dX12_number_0 : decode cX12_number 0 = .ok (.aload_n 0, 1) := by decide +kernel
theorem dX12_number_1 : decode cX12_number 1 = .ok (.invokevirtual 386, 3) := by decide +kernel
theorem dX12_number_4 : decode cX12_number 4 = .ok (.ifCond .ne 7, 3) := by decide +kernel
theorem dX12_number_7 : decode cX12_number 7 = .ok (.aload_n 0, 1) := by decide +kernel
theorem dX12_number_8 : decode cX12_number 8 = .ok (.invokevirtual 379, 3) := by decide +kernel
theorem dX12_number_11 : decode cX12_number 11 = .ok (.iconst 0, 1) := by decide +kernel
theorem dX12_number_12 : decode cX12_number 12 = .ok (.istore_n 2, 1) := by decide +kernel
theorem dX12_number_13 : decode cX12_number 13 = .ok (.iconst 0, 1) := by decide +kernel
theorem dX12_number_14 : decode cX12_number 14 = .ok (.istore_n 3, 1) := by decide +kernel
theorem dX12_number_15 : decode cX12_number 15 = .ok (.iload_n 3, 1) := by decide +kernel
theorem dX12_number_16 : decode cX12_number 16 = .ok (.iload_n 1, 1) := by decide +kernel
theorem dX12_number_17 : decode cX12_number 17 = .ok (.if_icmp .ge 44, 3) := by decide +kernel
theorem dX12_number_20 : decode cX12_number 20 = .ok (.aload_n 0, 1) := by decide +kernel
theorem dX12_number_21 : decode cX12_number 21 = .ok (.invokevirtual 386, 3) := by decide +kernel
theorem dX12_number_24 : decode cX12_number 24 = .ok (.ifCond .eq 37, 3) := by decide +kernel
theorem dX12_number_27 : decode cX12_number 27 = .ok (.bipush 10, 2) := by decide +kernel
theorem dX12_number_29 : decode cX12_number 29 = .ok (.iload_n 2, 1) := by decide +kernel
theorem dX12_number_30 : decode cX12_number 30 = .ok (.imul, 1) := by decide +kernel
theorem dX12_number_31 : decode cX12_number 31 = .ok (.aload_n 0, 1) := by decide +kernel
theorem dX12_number_32 : decode cX12_number 32 = .ok (.getfield 137, 3) := by decide +kernel
theorem dX12_number_35 : decode cX12_number 35 = .ok (.aload_n 0, 1) := by decide +kernel
theorem dX12_number_36 : decode cX12_number 36 = .ok (.getfield 370, 3) := by decide +kernel
theorem dX12_number_39 : decode cX12_number 39 = .ok (.iaload, 1) := by decide +kernel
theorem dX12_number_40 : decode cX12_number 40 = .ok (.iadd, 1) := by decide +kernel
theorem dX12_number_41 : decode cX12_number 41 = .ok (.bipush 48, 2) := by decide +kernel
theorem dX12_number_43 : decode cX12_number 43 = .ok (.isub, 1) := by decide +kernel
theorem dX12_number_44 : decode cX12_number 44 = .ok (.istore_n 2, 1) := by decide +kernel
theorem dX12_number_45 : decode cX12_number 45 = .ok (.aload_n 0, 1) := by decide +kernel
theorem dX12_number_46 : decode cX12_number 46 = .ok (.dup, 1) := by decide +kernel
theorem dX12_number_47 : decode cX12_number 47 = .ok (.getfield 370, 3) := by decide +kernel
theorem dX12_number_50 : decode cX12_number 50 = .ok (.iconst 1, 1) := by decide +kernel
theorem dX12_number_51 : decode cX12_number 51 = .ok (.iadd, 1) := by decide +kernel
theorem dX12_number_52 : decode cX12_number 52 = .ok (.putfield 370, 3) := by decide +kernel
theorem dX12_number_55 : decode cX12_number 55 = .ok (.iinc 3 1, 3) := by decide +kernel
theorem dX12_number_58 : decode cX12_number 58 = .ok (.goto (-43), 3) := by decide +kernel
theorem dX12_number_61 : decode cX12_number 61 = .ok (.iload_n 2, 1) := by decide +kernel
theorem dX12_number_62 : decode cX12_number 62 = .ok (.ireturn, 1) := by decide +kernel
theorem dX12_readsView_0 : decode cX12_readsView 0 = .ok (.aload_n 0, 1) := by decide +kernel
theorem dX12_readsView_1 : decode cX12_readsView 1 = .ok (.getfield 146, 3) := by decide +kernel
theorem dX12_readsView_4 : decode cX12_readsView 4 = .ok (.iload_n 1, 1) := by decide +kernel
theorem dX12_readsView_5 : decode cX12_readsView 5 = .ok (.aload_n 0, 1) := by decide +kernel
theorem dX12_readsView_6 : decode cX12_readsView 6 = .ok (.iconst 1, 1) := by decide +kernel
theorem dX12_readsView_7 : decode cX12_readsView 7 = .ok (.invokevirtual 390, 3) := by decide +kernel
theorem dX12_readsView_10 : decode cX12_readsView 10 = .ok (.iastore, 1) := by decide +kernel
theorem dX12_readsView_11 : decode cX12_readsView 11 = .ok (.aload_n 0, 1) := by decide +kernel
theorem dX12_readsView_12 : decode cX12_readsView 12 = .ok (.bipush 46, 2) := by decide +kernel
theorem dX12_readsView_14 : decode cX12_readsView 14 = .ok (.invokevirtual 393, 3) := by decide +kernel
theorem dX12_readsView_17 : decode cX12_readsView 17 = .ok (.aload_n 0, 1) := by decide +kernel
theorem dX12_readsView_18 : decode cX12_readsView 18 = .ok (.getfield 149, 3) := by decide +kernel
theorem dX12_readsView_21 : decode cX12_readsView 21 = .ok (.iload_n 1, 1) := by decide +kernel
theorem dX12_readsView_22 : decode cX12_readsView 22 = .ok (.aload_n 0, 1) := by decide +kernel
theorem dX12_readsView_23 : decode cX12_readsView 23 = .ok (.iconst 2, 1) := by decide +kernel
theorem dX12_readsView_24 : decode cX12_readsView 24 = .ok (.invokevirtual 390, 3) := by decide +kernel
theorem dX12_readsView_27 : decode cX12_readsView 27 = .ok (.iastore, 1) := by decide +kernel
theorem dX12_readsView_28 : decode cX12_readsView 28 = .ok (.aload_n 0, 1) := by decide +kernel
theorem dX12_readsView_29 : decode cX12_readsView 29 = .ok (.bipush 58, 2) := by decide +kernel
theorem dX12_readsView_31 : decode cX12_readsView 31 = .ok (.invokevirtual 393, 3) := by decide +kernel
theorem dX12_readsView_34 : decode cX12_readsView 34 = .ok (.aload_n 0, 1) := by decide +kernel
theorem dX12_readsView_35 : decode cX12_readsView 35 = .ok (.bipush 57, 2) := by decide +kernel
theorem dX12_readsView_37 : decode cX12_readsView 37 = .ok (.invokevirtual 373, 3) := by decide +kernel
theorem dX12_readsView_40 : decode cX12_readsView 40 = .ok (.ifCond .eq 7, 3) := by decide +kernel
theorem dX12_readsView_43 : decode cX12_readsView 43 = .ok (.aload_n 0, 1) := by decide +kernel
theorem dX12_readsView_44 : decode cX12_readsView 44 = .ok (.invokevirtual 379, 3) := by decide +kernel
theorem dX12_readsView_47 : decode cX12_readsView 47 = .ok (.aload_n 0, 1) := by decide +kernel
theorem dX12_readsView_48 : decode cX12_readsView 48 = .ok (.getfield 152, 3) := by decide +kernel
theorem dX12_readsView_51 : decode cX12_readsView 51 = .ok (.iload_n 1, 1) := by decide +kernel
theorem dX12_readsView_52 : decode cX12_readsView 52 = .ok (.aload_n 0, 1) := by decide +kernel
theorem dX12_readsView_53 : decode cX12_readsView 53 = .ok (.iconst 1, 1) := by decide +kernel
theorem dX12_readsView_54 : decode cX12_readsView 54 = .ok (.invokevirtual 390, 3) := by decide +kernel
theorem dX12_readsView_57 : decode cX12_readsView 57 = .ok (.iastore, 1) := by decide +kernel
theorem dX12_readsView_58 : decode cX12_readsView 58 = .ok (.return_, 1) := by decide +kernel
theorem dX12_readsBox_0 : decode cX12_readsBox 0 = .ok (.aload_n 0, 1) := by decide +kernel
theorem dX12_readsBox_1 : decode cX12_readsBox 1 = .ok (.getfield 146, 3) := by decide +kernel
theorem dX12_readsBox_4 : decode cX12_readsBox 4 = .ok (.iload_n 1, 1) := by decide +kernel
theorem dX12_readsBox_5 : decode cX12_readsBox 5 = .ok (.aload_n 0, 1) := by decide +kernel
theorem dX12_readsBox_6 : decode cX12_readsBox 6 = .ok (.iconst 1, 1) := by decide +kernel
theorem dX12_readsBox_7 : decode cX12_readsBox 7 = .ok (.invokevirtual 390, 3) := by decide +kernel
theorem dX12_readsBox_10 : decode cX12_readsBox 10 = .ok (.iastore, 1) := by decide +kernel
theorem dX12_readsBox_11 : decode cX12_readsBox 11 = .ok (.aload_n 0, 1) := by decide +kernel
theorem dX12_readsBox_12 : decode cX12_readsBox 12 = .ok (.getfield 152, 3) := by decide +kernel
theorem dX12_readsBox_15 : decode cX12_readsBox 15 = .ok (.iload_n 1, 1) := by decide +kernel
theorem dX12_readsBox_16 : decode cX12_readsBox 16 = .ok (.iconst (-1), 1) := by decide +kernel
theorem dX12_readsBox_17 : decode cX12_readsBox 17 = .ok (.iastore, 1) := by decide +kernel
theorem dX12_readsBox_18 : decode cX12_readsBox 18 = .ok (.aload_n 0, 1) := by decide +kernel
theorem dX12_readsBox_19 : decode cX12_readsBox 19 = .ok (.getfield 146, 3) := by decide +kernel
theorem dX12_readsBox_22 : decode cX12_readsBox 22 = .ok (.iload_n 1, 1) := by decide +kernel
theorem dX12_readsBox_23 : decode cX12_readsBox 23 = .ok (.iaload, 1) := by decide +kernel
theorem dX12_readsBox_24 : decode cX12_readsBox 24 = .ok (.bipush 8, 2) := by decide +kernel
theorem dX12_readsBox_26 : decode cX12_readsBox 26 = .ok (.if_icmp .ne 4, 3) := by decide +kernel
theorem dX12_readsBox_29 : decode cX12_readsBox 29 = .ok (.return_, 1) := by decide +kernel
theorem dX12_readsBox_30 : decode cX12_readsBox 30 = .ok (.aload_n 0, 1) := by decide +kernel
theorem dX12_readsBox_31 : decode cX12_readsBox 31 = .ok (.bipush 45, 2) := by decide +kernel
theorem dX12_readsBox_33 : decode cX12_readsBox 33 = .ok (.invokevirtual 376, 3) := by decide +kernel
theorem dX12_readsBox_36 : decode cX12_readsBox 36 = .ok (.istore_n 2, 1) := by decide +kernel
theorem dX12_readsBox_37 : decode cX12_readsBox 37 = .ok (.aload_n 0, 1) := by decide +kernel
theorem dX12_readsBox_38 : decode cX12_readsBox 38 = .ok (.bipush 9, 2) := by decide +kernel
theorem dX12_readsBox_40 : decode cX12_readsBox 40 = .ok (.invokevirtual 390, 3) := by decide +kernel
theorem dX12_readsBox_43 : decode cX12_readsBox 43 = .ok (.istore_n 3, 1) := by decide +kernel
theorem dX12_readsBox_44 : decode cX12_readsBox 44 = .ok (.aload_n 0, 1) := by decide +kernel
theorem dX12_readsBox_45 : decode cX12_readsBox 45 = .ok (.getfield 155, 3) := by decide +kernel
theorem dX12_readsBox_48 : decode cX12_readsBox 48 = .ok (.iload_n 1, 1) := by decide +kernel
theorem dX12_readsBox_49 : decode cX12_readsBox 49 = .ok (.iload_n 2, 1) := by decide +kernel
theorem dX12_readsBox_50 : decode cX12_readsBox 50 = .ok (.ifCond .eq 9, 3) := by decide +kernel
theorem dX12_readsBox_53 : decode cX12_readsBox 53 = .ok (.iload_n 3, 1) := by decide +kernel
theorem dX12_readsBox_54 : decode cX12_readsBox 54 = .ok (.ineg, 1) := by decide +kernel
theorem dX12_readsBox_55 : decode cX12_readsBox 55 = .ok (.i2l, 1) := by decide +kernel
theorem dX12_readsBox_56 : decode cX12_readsBox 56 = .ok (.goto 5, 3) := by decide +kernel
theorem dX12_readsBox_59 : decode cX12_readsBox 59 = .ok (.iload_n 3, 1) := by decide +kernel
theorem dX12_readsBox_60 : decode cX12_readsBox 60 = .ok (.i2l, 1) := by decide +kernel
theorem dX12_readsBox_61 : decode cX12_readsBox 61 = .ok (.lastore, 1) := by decide +kernel
theorem dX12_readsBox_62 : decode cX12_readsBox 62 = .ok (.return_, 1) := by decide +kernel
theorem dX12_readsLine_0 : decode cX12_readsLine 0 = .ok (.aload_n 0, 1) := by decide +kernel
theorem dX12_readsLine_1 : decode cX12_readsLine 1 = .ok (.getfield 140, 3) := by decide +kernel
theorem dX12_readsLine_4 : decode cX12_readsLine 4 = .ok (.iload_n 1, 1) := by decide +kernel
theorem dX12_readsLine_5 : decode cX12_readsLine 5 = .ok (.aload_n 0, 1) := by decide +kernel
theorem dX12_readsLine_6 : decode cX12_readsLine 6 = .ok (.iconst 1, 1) := by decide +kernel
theorem dX12_readsLine_7 : decode cX12_readsLine 7 = .ok (.invokevirtual 390, 3) := by decide +kernel
theorem dX12_readsLine_10 : decode cX12_readsLine 10 = .ok (.iastore, 1) := by decide +kernel
theorem dX12_readsLine_11 : decode cX12_readsLine 11 = .ok (.aload_n 0, 1) := by decide +kernel
theorem dX12_readsLine_12 : decode cX12_readsLine 12 = .ok (.bipush 46, 2) := by decide +kernel
theorem dX12_readsLine_14 : decode cX12_readsLine 14 = .ok (.invokevirtual 393, 3) := by decide +kernel
theorem dX12_readsLine_17 : decode cX12_readsLine 17 = .ok (.aload_n 0, 1) := by decide +kernel
theorem dX12_readsLine_18 : decode cX12_readsLine 18 = .ok (.getfield 143, 3) := by decide +kernel
theorem dX12_readsLine_21 : decode cX12_readsLine 21 = .ok (.iload_n 1, 1) := by decide +kernel
theorem dX12_readsLine_22 : decode cX12_readsLine 22 = .ok (.aload_n 0, 1) := by decide +kernel
theorem dX12_readsLine_23 : decode cX12_readsLine 23 = .ok (.iconst 2, 1) := by decide +kernel
theorem dX12_readsLine_24 : decode cX12_readsLine 24 = .ok (.invokevirtual 390, 3) := by decide +kernel
theorem dX12_readsLine_27 : decode cX12_readsLine 27 = .ok (.iastore, 1) := by decide +kernel
theorem dX12_readsLine_28 : decode cX12_readsLine 28 = .ok (.aload_n 0, 1) := by decide +kernel
theorem dX12_readsLine_29 : decode cX12_readsLine 29 = .ok (.bipush 61, 2) := by decide +kernel
theorem dX12_readsLine_31 : decode cX12_readsLine 31 = .ok (.invokevirtual 376, 3) := by decide +kernel
theorem dX12_readsLine_34 : decode cX12_readsLine 34 = .ok (.ifCond .eq 11, 3) := by decide +kernel
theorem dX12_readsLine_37 : decode cX12_readsLine 37 = .ok (.aload_n 0, 1) := by decide +kernel
theorem dX12_readsLine_38 : decode cX12_readsLine 38 = .ok (.iload_n 1, 1) := by decide +kernel
theorem dX12_readsLine_39 : decode cX12_readsLine 39 = .ok (.invokevirtual 396, 3) := by decide +kernel
theorem dX12_readsLine_42 : decode cX12_readsLine 42 = .ok (.goto 24, 3) := by decide +kernel
theorem dX12_readsLine_45 : decode cX12_readsLine 45 = .ok (.aload_n 0, 1) := by decide +kernel
theorem dX12_readsLine_46 : decode cX12_readsLine 46 = .ok (.bipush 60, 2) := by decide +kernel
theorem dX12_readsLine_48 : decode cX12_readsLine 48 = .ok (.invokevirtual 376, 3) := by decide +kernel
theorem dX12_readsLine_51 : decode cX12_readsLine 51 = .ok (.ifCond .eq 11, 3) := by decide +kernel
theorem dX12_readsLine_54 : decode cX12_readsLine 54 = .ok (.aload_n 0, 1) := by decide +kernel
theorem dX12_readsLine_55 : decode cX12_readsLine 55 = .ok (.iload_n 1, 1) := by decide +kernel
theorem dX12_readsLine_56 : decode cX12_readsLine 56 = .ok (.invokevirtual 399, 3) := by decide +kernel
theorem dX12_readsLine_59 : decode cX12_readsLine 59 = .ok (.goto 7, 3) := by decide +kernel
theorem dX12_readsLine_62 : decode cX12_readsLine 62 = .ok (.aload_n 0, 1) := by decide +kernel
theorem dX12_readsLine_63 : decode cX12_readsLine 63 = .ok (.invokevirtual 379, 3) := by decide +kernel
theorem dX12_readsLine_66 : decode cX12_readsLine 66 = .ok (.return_, 1) := by decide +kernel
theorem dX12_readsAll_0 : decode cX12_readsAll 0 = .ok (.aload_n 0, 1) := by decide +kernel
theorem dX12_readsAll_1 : decode cX12_readsAll 1 = .ok (.iconst 0, 1) := by decide +kernel
theorem dX12_readsAll_2 : decode cX12_readsAll 2 = .ok (.putfield 370, 3) := by decide +kernel
theorem dX12_readsAll_5 : decode cX12_readsAll 5 = .ok (.aload_n 0, 1) := by decide +kernel
theorem dX12_readsAll_6 : decode cX12_readsAll 6 = .ok (.iconst (-1), 1) := by decide +kernel
theorem dX12_readsAll_7 : decode cX12_readsAll 7 = .ok (.putfield 367, 3) := by decide +kernel
theorem dX12_readsAll_10 : decode cX12_readsAll 10 = .ok (.iconst 0, 1) := by decide +kernel

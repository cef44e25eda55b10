theorem dX9_letterHere_38 : decode cX9_letterHere 38 = .ok (.baload, 1) := by decide +kernel
theorem dX9_letterHere_39 : decode cX9_letterHere 39 = .ok (.goto 4, 3) := by decide +kernel
theorem dX9_letterHere_42 : decode cX9_letterHere 42 = .ok (.iconst 0, 1) := by decide +kernel
theorem dX9_letterHere_43 : decode cX9_letterHere 43 = .ok (.ireturn, 1) := by decide +kernel
theorem dX10_init_0 : decode cX10_init 0 = .ok (.aload_n 0, 1) := by decide +kernel
theorem dX10_init_1 : decode cX10_init 1 = .ok (.invokespecial 3, 3) := by decide +kernel
theorem dX10_init_4 : decode cX10_init 4 = .ok (.aload_n 0, 1) := by decide +kernel
theorem dX10_init_5 : decode cX10_init 5 = .ok (.iconst 0, 1) := by decide +kernel
theorem dX10_init_6 : decode cX10_init 6 = .ok (.putfield 9, 3) := by decide +kernel
theorem dX10_init_9 : decode cX10_init 9 = .ok (.aload_n 0, 1) := by decide +kernel
theorem dX10_init_10 : decode cX10_init 10 = .ok (.iconst 0, 1) := by decide +kernel
theorem dX10_init_11 : decode cX10_init 11 = .ok (.putfield 15, 3) := by decide +kernel
theorem dX10_init_14 : decode cX10_init 14 = .ok (.aload_n 0, 1) := by decide +kernel
theorem dX10_init_15 : decode cX10_init 15 = .ok (.iconst 1, 1) := by decide +kernel
theorem dX10_init_16 : decode cX10_init 16 = .ok (.putfield 18, 3) := by decide +kernel
theorem dX10_init_19 : decode cX10_init 19 = .ok (.aload_n 0, 1) := by decide +kernel
theorem dX10_init_20 : decode cX10_init 20 = .ok (.iconst 0, 1) := by decide +kernel
theorem dX10_init_21 : decode cX10_init 21 = .ok (.putfield 21, 3) := by decide +kernel
theorem dX10_init_24 : decode cX10_init 24 = .ok (.aload_n 0, 1) := by decide +kernel
theorem dX10_init_25 : decode cX10_init 25 = .ok (.bipush 8, 2) := by decide +kernel
theorem dX10_init_27 : decode cX10_init 27 = .ok (.putfield 24, 3) := by decide +kernel
theorem dX10_init_30 : decode cX10_init 30 = .ok (.return_, 1) := by decide +kernel
theorem dX10_has_0 : decode cX10_has 0 = .ok (.iload_n 1, 1) := by decide +kernel
theorem dX10_has_1 : decode cX10_has 1 = .ok (.ifCond .lt 15, 3) := by decide +kernel
theorem dX10_has_4 : decode cX10_has 4 = .ok (.iload_n 1, 1) := by decide +kernel
theorem dX10_has_5 : decode cX10_has 5 = .ok (.aload_n 0, 1) := by decide +kernel
theorem dX10_has_6 : decode cX10_has 6 = .ok (.getfield 21, 3) := by decide +kernel
theorem dX10_has_9 : decode cX10_has 9 = .ok (.if_icmp .ge 7, 3) := by decide +kernel
theorem dX10_has_12 : decode cX10_has 12 = .ok (.iconst 1, 1) := by decide +kernel
theorem dX10_has_13 : decode cX10_has 13 = .ok (.goto 4, 3) := by decide +kernel
theorem dX10_has_16 : decode cX10_has 16 = .ok (.iconst 0, 1) := by decide +kernel
theorem dX10_has_17 : decode cX10_has 17 = .ok (.ireturn, 1) := by decide +kernel
theorem dX10_placeOf_0 : decode cX10_placeOf 0 = .ok (.aload_n 0, 1) := by decide +kernel
theorem dX10_placeOf_1 : decode cX10_placeOf 1 = .ok (.getfield 15, 3) := by decide +kernel
theorem dX10_placeOf_4 : decode cX10_placeOf 4 = .ok (.iload_n 1, 1) := by decide +kernel
theorem dX10_placeOf_5 : decode cX10_placeOf 5 = .ok (.aload_n 0, 1) := by decide +kernel
theorem dX10_placeOf_6 : decode cX10_placeOf 6 = .ok (.getfield 18, 3) := by decide +kernel
theorem dX10_placeOf_9 : decode cX10_placeOf 9 = .ok (.imul, 1) := by decide +kernel
theorem dX10_placeOf_10 : decode cX10_placeOf 10 = .ok (.iadd, 1) := by decide +kernel
theorem dX10_placeOf_11 : decode cX10_placeOf 11 = .ok (.ireturn, 1) := by decide +kernel
theorem dX10_become_0 : decode cX10_become 0 = .ok (.aload_n 0, 1) := by decide +kernel
theorem dX10_become_1 : decode cX10_become 1 = .ok (.iload_n 1, 1) := by decide +kernel
theorem dX10_become_2 : decode cX10_become 2 = .ok (.putfield 9, 3) := by decide +kernel
theorem dX10_become_5 : decode cX10_become 5 = .ok (.aload_n 0, 1) := by decide +kernel
theorem dX10_become_6 : decode cX10_become 6 = .ok (.iload_n 2, 1) := by decide +kernel
theorem dX10_become_7 : decode cX10_become 7 = .ok (.putfield 15, 3) := by decide +kernel
theorem dX10_become_10 : decode cX10_become 10 = .ok (.aload_n 0, 1) := by decide +kernel
theorem dX10_become_11 : decode cX10_become 11 = .ok (.iload_n 3, 1) := by decide +kernel
theorem dX10_become_12 : decode cX10_become 12 = .ok (.putfield 18, 3) := by decide +kernel
theorem dX10_become_15 : decode cX10_become 15 = .ok (.aload_n 0, 1) := by decide +kernel
theorem dX10_become_16 : decode cX10_become 16 = .ok (.iload 4, 2) := by decide +kernel
theorem dX10_become_18 : decode cX10_become 18 = .ok (.putfield 21, 3) := by decide +kernel
theorem dX10_become_21 : decode cX10_become 21 = .ok (.aload_n 0, 1) := by decide +kernel
theorem dX10_become_22 : decode cX10_become 22 = .ok (.iload 5, 2) := by decide +kernel
theorem dX10_become_24 : decode cX10_become 24 = .ok (.putfield 24, 3) := by decide +kernel
theorem dX10_become_27 : decode cX10_become 27 = .ok (.return_, 1) := by decide +kernel
theorem dX11_init_0 : decode cX11_init 0 = .ok (.aload_n 0, 1) := by decide +kernel
theorem dX11_init_1 : decode cX11_init 1 = .ok (.invokespecial 5, 3) := by decide +kernel
theorem dX11_init_4 : decode cX11_init 4 = .ok (.aload_n 0, 1) := by decide +kernel
theorem dX11_init_5 : decode cX11_init 5 = .ok (.new 11, 3) := by decide +kernel
theorem dX11_init_8 : decode cX11_init 8 = .ok (.dup, 1) := by decide +kernel
theorem dX11_init_9 : decode cX11_init 9 = .ok (.invokespecial 13, 3) := by decide +kernel
theorem dX11_init_12 : decode cX11_init 12 = .ok (.putfield 14, 3) := by decide +kernel
theorem dX11_init_15 : decode cX11_init 15 = .ok (.aload_n 0, 1) := by decide +kernel
theorem dX11_init_16 : decode cX11_init 16 = .ok (.new 11, 3) := by decide +kernel
theorem dX11_init_19 : decode cX11_init 19 = .ok (.dup, 1) := by decide +kernel
theorem dX11_init_20 : decode cX11_init 20 = .ok (.invokespecial 13, 3) := by decide +kernel
theorem dX11_init_23 : decode cX11_init 23 = .ok (.putfield 18, 3) := by decide +kernel
theorem dX11_init_26 : decode cX11_init 26 = .ok (.aload_n 0, 1) := by decide +kernel
theorem dX11_init_27 : decode cX11_init 27 = .ok (.new 11, 3) := by decide +kernel
theorem dX11_init_30 : decode cX11_init 30 = .ok (.dup, 1) := by decide +kernel
theorem dX11_init_31 : decode cX11_init 31 = .ok (.invokespecial 13, 3) := by decide +kernel
theorem dX11_init_34 : decode cX11_init 34 = .ok (.putfield 21, 3) := by decide +kernel
theorem dX11_init_37 : decode cX11_init 37 = .ok (.aload_n 0, 1) := by decide +kernel
theorem dX11_init_38 : decode cX11_init 38 = .ok (.bipush 32, 2) := by decide +kernel
theorem dX11_init_40 : decode cX11_init 40 = .ok (.newarray .long, 2) := by decide +kernel
theorem dX11_init_42 : decode cX11_init 42 = .ok (.putfield 24, 3) := by decide +kernel
theorem dX11_init_45 : decode cX11_init 45 = .ok (.aload_n 0, 1) := by decide +kernel
theorem dX11_init_46 : decode cX11_init 46 = .ok (.bipush 32, 2) := by decide +kernel
theorem dX11_init_48 : decode cX11_init 48 = .ok (.newarray .int, 2) := by decide +kernel
theorem dX11_init_50 : decode cX11_init 50 = .ok (.putfield 28, 3) := by decide +kernel
theorem dX11_init_53 : decode cX11_init 53 = .ok (.aload_n 0, 1) := by decide +kernel
theorem dX11_init_54 : decode cX11_init 54 = .ok (.iconst 3, 1) := by decide +kernel
theorem dX11_init_55 : decode cX11_init 55 = .ok (.newarray .int, 2) := by decide +kernel
theorem dX11_init_57 : decode cX11_init 57 = .ok (.putfield 32, 3) := by decide +kernel
theorem dX11_init_60 : decode cX11_init 60 = .ok (.aload_n 0, 1) := by decide +kernel
theorem dX11_init_61 : decode cX11_init 61 = .ok (.new 35, 3) := by decide +kernel
theorem dX11_init_64 : decode cX11_init 64 = .ok (.dup, 1) := by decide +kernel
theorem dX11_init_65 : decode cX11_init 65 = .ok (.invokespecial 37, 3) := by decide +kernel
theorem dX11_init_68 : decode cX11_init 68 = .ok (.putfield 38, 3) := by decide +kernel
theorem dX11_init_71 : decode cX11_init 71 = .ok (.aload_n 0, 1) := by decide +kernel
theorem dX11_init_72 : decode cX11_init 72 = .ok (.new 42, 3) := by decide +kernel
theorem dX11_init_75 : decode cX11_init 75 = .ok (.dup, 1) := by decide +kernel
theorem dX11_init_76 : decode cX11_init 76 = .ok (.invokespecial 44, 3) := by decide +kernel
theorem dX11_init_79 : decode cX11_init 79 = .ok (.putfield 45, 3) := by decide +kernel
theorem dX11_init_82 : decode cX11_init 82 = .ok (.aload_n 0, 1) := by decide +kernel
theorem dX11_init_83 : decode cX11_init 83 = .ok (.new 49, 3) := by decide +kernel
theorem dX11_init_86 : decode cX11_init 86 = .ok (.dup, 1) := by decide +kernel
theorem dX11_init_87 : decode cX11_init 87 = .ok (.invokespecial 51, 3) := by decide +kernel
theorem dX11_init_90 : decode cX11_init 90 = .ok (.putfield 52, 3) := by decide +kernel
theorem dX11_init_93 : decode cX11_init 93 = .ok (.aload_n 0, 1) := by decide +kernel
theorem dX11_init_94 : decode cX11_init 94 = .ok (.new 56, 3) := by decide +kernel
theorem dX11_init_97 : decode cX11_init 97 = .ok (.dup, 1) := by decide +kernel
theorem dX11_init_98 : decode cX11_init 98 = .ok (.invokespecial 58, 3) := by decide +kernel
theorem dX11_init_101 : decode cX11_init 101 = .ok (.putfield 59, 3) := by decide +kernel
theorem dX11_init_104 : decode cX11_init 104 = .ok (.aload_n 0, 1) := by decide +kernel
theorem dX11_init_105 : decode cX11_init 105 = .ok (.aconst_null, 1) := by decide +kernel
theorem dX11_init_106 : decode cX11_init 106 = .ok (.putfield 63, 3) := by decide +kernel
theorem dX11_init_109 : decode cX11_init 109 = .ok (.aload_n 0, 1) := by decide +kernel
theorem dX11_init_110 : decode cX11_init 110 = .ok (.iconst 0, 1) := by decide +kernel
theorem dX11_init_111 : decode cX11_init 111 = .ok (.putfield 66, 3) := by decide +kernel
theorem dX11_init_114 : decode cX11_init 114 = .ok (.aload_n 0, 1) := by decide +kernel
theorem dX11_init_115 : decode cX11_init 115 = .ok (.iconst 0, 1) := by decide +kernel
theorem dX11_init_116 : decode cX11_init 116 = .ok (.putfield 70, 3) := by decide +kernel
theorem dX11_init_119 : decode cX11_init 119 = .ok (.aload_n 0, 1) := by decide +kernel
theorem dX11_init_120 : decode cX11_init 120 = .ok (.iconst 0, 1) := by decide +kernel
theorem dX11_init_121 : decode cX11_init 121 = .ok (.putfield 74, 3) := by decide +kernel
theorem dX11_init_124 : decode cX11_init 124 = .ok (.aload_n 0, 1) := by decide +kernel
theorem dX11_init_125 : decode cX11_init 125 = .ok (.iconst 0, 1) := by decide +kernel
theorem dX11_init_126 : decode cX11_init 126 = .ok (.putfield 77, 3) := by decide +kernel
theorem dX11_init_129 : decode cX11_init 129 = .ok (.return_, 1) := by decide +kernel
theorem dX11_make_0 : decode cX11_make 0 = .ok (.iload_n 1, 1) := by decide +kernel
theorem dX11_make_1 : decode cX11_make 1 = .ok (.invokestatic 80, 3) := by decide +kernel
theorem dX11_make_4 : decode cX11_make 4 = .ok (.ifCond .ne 5, 3) := by decide +kernel
theorem dX11_make_7 : decode cX11_make 7 = .ok (.iconst (-1), 1) := by decide +kernel
theorem dX11_make_8 : decode cX11_make 8 = .ok (.ireturn, 1) := by decide +kernel
theorem dX11_make_9 : decode cX11_make 9 = .ok (.iload_n 2, 1) := by decide +kernel
theorem dX11_make_10 : decode cX11_make 10 = .ok (.ifCond .lt 15, 3) := by decide +kernel
theorem dX11_make_13 : decode cX11_make 13 = .ok (.iload_n 2, 1) := by decide +kernel
theorem dX11_make_14 : decode cX11_make 14 = .ok (.bipush 9, 2) := by decide +kernel
theorem dX11_make_16 : decode cX11_make 16 = .ok (.if_icmp .gt 9, 3) := by decide +kernel
theorem dX11_make_19 : decode cX11_make 19 = .ok (.iload_n 3, 1) := by decide +kernel
theorem dX11_make_20 : decode cX11_make 20 = .ok (.bipush 32, 2) := by decide +kernel
theorem dX11_make_22 : decode cX11_make 22 = .ok (.if_icmp .le 6, 3) := by decide +kernel
theorem dX11_make_25 : decode cX11_make 25 = .ok (.bipush (-2), 2) := by decide +kernel
theorem dX11_make_27 : decode cX11_make 27 = .ok (.ireturn, 1) := by decide +kernel
theorem dX11_make_28 : decode cX11_make 28 = .ok (.iload_n 3, 1) := by decide +kernel
theorem dX11_make_29 : decode cX11_make 29 = .ok (.ifCond .ge 6, 3) := by decide +kernel
theorem dX11_make_32 : decode cX11_make 32 = .ok (.bipush (-14), 2) := by decide +kernel
theorem dX11_make_34 : decode cX11_make 34 = .ok (.ireturn, 1) := by decide +kernel
theorem dX11_make_35 : decode cX11_make 35 = .ok (.aload_n 0, 1) := by decide +kernel
theorem dX11_make_36 : decode cX11_make 36 = .ok (.getfield 59, 3) := by decide +kernel
theorem dX11_make_39 : decode cX11_make 39 = .ok (.iload_n 1, 1) := by decide +kernel
theorem dX11_make_40 : decode cX11_make 40 = .ok (.invokevirtual 84, 3) := by decide +kernel
theorem dX11_make_43 : decode cX11_make 43 = .ok (.astore 4, 2) := by decide +kernel
theorem dX11_make_45 : decode cX11_make 45 = .ok (.aload_n 0, 1) := by decide +kernel
theorem dX11_make_46 : decode cX11_make 46 = .ok (.getfield 59, 3) := by decide +kernel
theorem dX11_make_49 : decode cX11_make 49 = .ok (.iload_n 1, 1) := by decide +kernel
theorem dX11_make_50 : decode cX11_make 50 = .ok (.new 88, 3) := by decide +kernel
theorem dX11_make_53 : decode cX11_make 53 = .ok (.dup, 1) := by decide +kernel
theorem dX11_make_54 : decode cX11_make 54 = .ok (.iload_n 2, 1) := by decide +kernel
theorem dX11_make_55 : decode cX11_make 55 = .ok (.iload_n 3, 1) := by decide +kernel
theorem dX11_make_56 : decode cX11_make 56 = .ok (.invokespecial 90, 3) := by decide +kernel
theorem dX11_make_59 : decode cX11_make 59 = .ok (.invokevirtual 93, 3) := by decide +kernel
theorem dX11_make_62 : decode cX11_make 62 = .ok (.aload_n 0, 1) := by decide +kernel
theorem dX11_make_63 : decode cX11_make 63 = .ok (.aload 4, 2) := by decide +kernel
theorem dX11_make_65 : decode cX11_make 65 = .ok (.invokevirtual 97, 3) := by decide +kernel
theorem dX11_make_68 : decode cX11_make 68 = .ok (.iconst 1, 1) := by decide +kernel
theorem dX11_make_69 : decode cX11_make 69 = .ok (.ireturn, 1) := by decide +kernel
theorem dX11_thing_0 : decode cX11_thing 0 = .ok (.iload_n 1, 1) := by decide +kernel
theorem dX11_thing_1 : decode cX11_thing 1 = .ok (.invokestatic 80, 3) := by decide +kernel
theorem dX11_thing_4 : decode cX11_thing 4 = .ok (.ifCond .ne 5, 3) := by decide +kernel
theorem dX11_thing_7 : decode cX11_thing 7 = .ok (.iconst (-1), 1) := by decide +kernel
theorem dX11_thing_8 : decode cX11_thing 8 = .ok (.ireturn, 1) := by decide +kernel
theorem dX11_thing_9 : decode cX11_thing 9 = .ok (.iload_n 2, 1) := by decide +kernel
theorem dX11_thing_10 : decode cX11_thing 10 = .ok (.iconst (-1), 1) := by decide +kernel
theorem dX11_thing_11 : decode cX11_thing 11 = .ok (.if_icmp .lt 21, 3) := by decide +kernel
theorem dX11_thing_14 : decode cX11_thing 14 = .ok (.iload_n 2, 1) := by decide +kernel
theorem dX11_thing_15 : decode cX11_thing 15 = .ok (.iconst 1, 1) := by decide +kernel
theorem dX11_thing_16 : decode cX11_thing 16 = .ok (.if_icmp .gt 16, 3) := by decide +kernel
theorem dX11_thing_19 : decode cX11_thing 19 = .ok (.iload_n 2, 1) := by decide +kernel
theorem dX11_thing_20 : decode cX11_thing 20 = .ok (.iconst 1, 1) := by decide +kernel
theorem dX11_thing_21 : decode cX11_thing 21 = .ok (.if_icmp .ne 14, 3) := by decide +kernel
theorem dX11_thing_24 : decode cX11_thing 24 = .ok (.iload_n 3, 1) := by decide +kernel
theorem dX11_thing_25 : decode cX11_thing 25 = .ok (.i2l, 1) := by decide +kernel
theorem dX11_thing_26 : decode cX11_thing 26 = .ok (.invokestatic 101, 3) := by decide +kernel
theorem dX11_thing_29 : decode cX11_thing 29 = .ok (.ifCond .ne 6, 3) := by decide +kernel
theorem dX11_thing_32 : decode cX11_thing 32 = .ok (.bipush (-2), 2) := by decide +kernel
theorem dX11_thing_34 : decode cX11_thing 34 = .ok (.ireturn, 1) := by decide +kernel
theorem dX11_thing_35 : decode cX11_thing 35 = .ok (.aload_n 0, 1) := by decide +kernel
theorem dX11_thing_36 : decode cX11_thing 36 = .ok (.getfield 59, 3) := by decide +kernel
theorem dX11_thing_39 : decode cX11_thing 39 = .ok (.iload_n 1, 1) := by decide +kernel
theorem dX11_thing_40 : decode cX11_thing 40 = .ok (.invokevirtual 84, 3) := by decide +kernel
theorem dX11_thing_43 : decode cX11_thing 43 = .ok (.astore 4, 2) := by decide +kernel
theorem dX11_thing_45 : decode cX11_thing 45 = .ok (.iload_n 2, 1) := by decide +kernel
theorem dX11_thing_46 : decode cX11_thing 46 = .ok (.iconst (-1), 1) := by decide +kernel
theorem dX11_thing_47 : decode cX11_thing 47 = .ok (.if_icmp .ne 16, 3) := by decide +kernel
theorem dX11_thing_50 : decode cX11_thing 50 = .ok (.aload_n 0, 1) := by decide +kernel
theorem dX11_thing_51 : decode cX11_thing 51 = .ok (.getfield 59, 3) := by decide +kernel
theorem dX11_thing_54 : decode cX11_thing 54 = .ok (.iload_n 1, 1) := by decide +kernel
theorem dX11_thing_55 : decode cX11_thing 55 = .ok (.iconst (-1), 1) := by decide +kernel
theorem dX11_thing_56 : decode cX11_thing 56 = .ok (.iconst 0, 1) := by decide +kernel
theorem dX11_thing_57 : decode cX11_thing 57 = .ok (.invokevirtual 105, 3) := by decide +kernel
theorem dX11_thing_60 : decode cX11_thing 60 = .ok (.goto 23, 3) := by decide +kernel
theorem dX11_thing_63 : decode cX11_thing 63 = .ok (.aload_n 0, 1) := by decide +kernel
theorem dX11_thing_64 : decode cX11_thing 64 = .ok (.getfield 59, 3) := by decide +kernel
theorem dX11_thing_67 : decode cX11_thing 67 = .ok (.iload_n 1, 1) := by decide +kernel
theorem dX11_thing_68 : decode cX11_thing 68 = .ok (.iload_n 2, 1) := by decide +kernel
theorem dX11_thing_69 : decode cX11_thing 69 = .ok (.ifCond .ne 8, 3) := by decide +kernel
theorem dX11_thing_72 : decode cX11_thing 72 = .ok (.bipush 10, 2) := by decide +kernel
theorem dX11_thing_74 : decode cX11_thing 74 = .ok (.goto 5, 3) := by decide +kernel
theorem dX11_thing_77 : decode cX11_thing 77 = .ok (.bipush 11, 2) := by decide +kernel
theorem dX11_thing_79 : decode cX11_thing 79 = .ok (.iload_n 3, 1) := by decide +kernel
theorem dX11_thing_80 : decode cX11_thing 80 = .ok (.invokevirtual 105, 3) := by decide +kernel
theorem dX11_thing_83 : decode cX11_thing 83 = .ok (.aload_n 0, 1) := by decide +kernel
theorem dX11_thing_84 : decode cX11_thing 84 = .ok (.aload 4, 2) := by decide +kernel
theorem dX11_thing_86 : decode cX11_thing 86 = .ok (.invokevirtual 97, 3) := by decide +kernel
theorem dX11_thing_89 : decode cX11_thing 89 = .ok (.iconst 1, 1) := by decide +kernel
theorem dX11_thing_90 : decode cX11_thing 90 = .ok (.ireturn, 1) := by decide +kernel
theorem dX11_same_0 : decode cX11_same 0 = .ok (.iload_n 1, 1) := by decide +kernel
theorem dX11_same_1 : decode cX11_same 1 = .ok (.invokestatic 80, 3) := by decide +kernel
theorem dX11_same_4 : decode cX11_same 4 = .ok (.ifCond .eq 10, 3) := by decide +kernel
theorem dX11_same_7 : decode cX11_same 7 = .ok (.iload_n 2, 1) := by decide +kernel
theorem dX11_same_8 : decode cX11_same 8 = .ok (.invokestatic 80, 3) := by decide +kernel
theorem dX11_same_11 : decode cX11_same 11 = .ok (.ifCond .ne 5, 3) := by decide +kernel
theorem dX11_same_14 : decode cX11_same 14 = .ok (.iconst (-1), 1) := by decide +kernel
theorem dX11_same_15 : decode cX11_same 15 = .ok (.ireturn, 1) := by decide +kernel
theorem dX11_same_16 : decode cX11_same 16 = .ok (.aload_n 0, 1) := by decide +kernel
theorem dX11_same_17 : decode cX11_same 17 = .ok (.getfield 59, 3) := by decide +kernel
theorem dX11_same_20 : decode cX11_same 20 = .ok (.iload_n 1, 1) := by decide +kernel
theorem dX11_same_21 : decode cX11_same 21 = .ok (.invokevirtual 84, 3) := by decide +kernel
theorem dX11_same_24 : decode cX11_same 24 = .ok (.astore_n 3, 1) := by decide +kernel
theorem dX11_same_25 : decode cX11_same 25 = .ok (.aload_n 0, 1) := by decide +kernel
theorem dX11_same_26 : decode cX11_same 26 = .ok (.getfield 59, 3) := by decide +kernel
theorem dX11_same_29 : decode cX11_same 29 = .ok (.iload_n 1, 1) := by decide +kernel
theorem dX11_same_30 : decode cX11_same 30 = .ok (.iload_n 2, 1) := by decide +kernel
theorem dX11_same_31 : decode cX11_same 31 = .ok (.invokevirtual 109, 3) := by decide +kernel
theorem dX11_same_34 : decode cX11_same 34 = .ok (.aload_n 0, 1) := by decide +kernel
theorem dX11_same_35 : decode cX11_same 35 = .ok (.aload_n 3, 1) := by decide +kernel
theorem dX11_same_36 : decode cX11_same 36 = .ok (.invokevirtual 97, 3) := by decide +kernel
theorem dX11_same_39 : decode cX11_same 39 = .ok (.iconst 1, 1) := by decide +kernel
theorem dX11_same_40 : decode cX11_same 40 = .ok (.ireturn, 1) := by decide +kernel
theorem dX11_of_0 : decode cX11_of 0 = .ok (.iload_n 1, 1) := by decide +kernel
theorem dX11_of_1 : decode cX11_of 1 = .ok (.invokestatic 80, 3) := by decide +kernel
theorem dX11_of_4 : decode cX11_of 4 = .ok (.ifCond .eq 12, 3) := by decide +kernel
theorem dX11_of_7 : decode cX11_of 7 = .ok (.iload_n 2, 1) := by decide +kernel
theorem dX11_of_8 : decode cX11_of 8 = .ok (.ifCond .lt 8, 3) := by decide +kernel
theorem dX11_of_11 : decode cX11_of 11 = .ok (.iload_n 2, 1) := by decide +kernel
theorem dX11_of_12 : decode cX11_of 12 = .ok (.iconst 4, 1) := by decide +kernel
theorem dX11_of_13 : decode cX11_of 13 = .ok (.if_icmp .le 5, 3) := by decide +kernel
theorem dX11_of_16 : decode cX11_of 16 = .ok (.iconst (-1), 1) := by decide +kernel
theorem dX11_of_17 : decode cX11_of 17 = .ok (.ireturn, 1) := by decide +kernel
theorem dX11_of_18 : decode cX11_of 18 = .ok (.iload_n 2, 1) := by decide +kernel
theorem dX11_of_19 : decode cX11_of 19 = .ok (.ifCond .ne 12, 3) := by decide +kernel
theorem dX11_of_22 : decode cX11_of 22 = .ok (.aload_n 0, 1) := by decide +kernel
theorem dX11_of_23 : decode cX11_of 23 = .ok (.getfield 59, 3) := by decide +kernel
theorem dX11_of_26 : decode cX11_of 26 = .ok (.iload_n 1, 1) := by decide +kernel
theorem dX11_of_27 : decode cX11_of 27 = .ok (.invokevirtual 112, 3) := by decide +kernel
theorem dX11_of_30 : decode cX11_of 30 = .ok (.ireturn, 1) := by decide +kernel
theorem dX11_of_31 : decode cX11_of 31 = .ok (.aload_n 0, 1) := by decide +kernel
theorem dX11_of_32 : decode cX11_of 32 = .ok (.getfield 59, 3) := by decide +kernel
theorem dX11_of_35 : decode cX11_of 35 = .ok (.iload_n 1, 1) := by decide +kernel
theorem dX11_of_36 : decode cX11_of 36 = .ok (.invokevirtual 84, 3) := by decide +kernel
theorem dX11_of_39 : decode cX11_of 39 = .ok (.astore_n 3, 1) := by decide +kernel
theorem dX11_of_40 : decode cX11_of 40 = .ok (.aload_n 3, 1) := by decide +kernel
theorem dX11_of_41 : decode cX11_of 41 = .ok (.ifnonnull 12, 3) := by decide +kernel
theorem dX11_of_44 : decode cX11_of 44 = .ok (.aload_n 0, 1) := by decide +kernel
theorem dX11_of_45 : decode cX11_of 45 = .ok (.getfield 59, 3) := by decide +kernel
theorem dX11_of_48 : decode cX11_of 48 = .ok (.iload_n 1, 1) := by decide +kernel
theorem dX11_of_49 : decode cX11_of 49 = .ok (.invokevirtual 116, 3) := by decide +kernel
theorem dX11_of_52 : decode cX11_of 52 = .ok (.ireturn, 1) := by decide +kernel
theorem dX11_of_53 : decode cX11_of 53 = .ok (.iload_n 2, 1) := by decide +kernel
theorem dX11_of_54 : decode cX11_of 54 = .ok (.tableswitch 45 1 3 #[26, 31, 40], 26) := by decide +kernel
theorem dX11_of_80 : decode cX11_of 80 = .ok (.aload_n 3, 1) := by decide +kernel
theorem dX11_of_81 : decode cX11_of 81 = .ok (.invokevirtual 119, 3) := by decide +kernel
theorem dX11_of_84 : decode cX11_of 84 = .ok (.ireturn, 1) := by decide +kernel
theorem dX11_of_85 : decode cX11_of 85 = .ok (.aload_n 0, 1) := by decide +kernel
theorem dX11_of_86 : decode cX11_of 86 = .ok (.getfield 59, 3) := by decide +kernel
theorem dX11_of_89 : decode cX11_of 89 = .ok (.aload_n 3, 1) := by decide +kernel
theorem dX11_of_90 : decode cX11_of 90 = .ok (.invokevirtual 123, 3) := by decide +kernel
theorem dX11_of_93 : decode cX11_of 93 = .ok (.ireturn, 1) := by decide +kernel
theorem dX11_of_94 : decode cX11_of 94 = .ok (.aload_n 3, 1) := by decide +kernel
theorem dX11_of_95 : decode cX11_of 95 = .ok (.invokevirtual 127, 3) := by decide +kernel
theorem dX11_of_98 : decode cX11_of 98 = .ok (.ireturn, 1) := by decide +kernel
theorem dX11_of_99 : decode cX11_of 99 = .ok (.aload_n 3, 1) := by decide +kernel
theorem dX11_of_100 : decode cX11_of 100 = .ok (.invokevirtual 130, 3) := by decide +kernel
theorem dX11_of_103 : decode cX11_of 103 = .ok (.ireturn, 1) := by decide +kernel
theorem dX11_read_0 : decode cX11_read 0 = .ok (.iload_n 1, 1) := by decide +kernel
theorem dX11_read_1 : decode cX11_read 1 = .ok (.invokestatic 80, 3) := by decide +kernel
theorem dX11_read_4 : decode cX11_read 4 = .ok (.ifCond .eq 10, 3) := by decide +kernel
theorem dX11_read_7 : decode cX11_read 7 = .ok (.iload_n 3, 1) := by decide +kernel
theorem dX11_read_8 : decode cX11_read 8 = .ok (.invokestatic 133, 3) := by decide +kernel
theorem dX11_read_11 : decode cX11_read 11 = .ok (.ifCond .ne 5, 3) := by decide +kernel
theorem dX11_read_14 : decode cX11_read 14 = .ok (.iconst (-1), 1) := by decide +kernel
theorem dX11_read_15 : decode cX11_read 15 = .ok (.ireturn, 1) := by decide +kernel
theorem dX11_read_16 : decode cX11_read 16 = .ok (.aload_n 0, 1) := by decide +kernel
theorem dX11_read_17 : decode cX11_read 17 = .ok (.aload_n 0, 1) := by decide +kernel
theorem dX11_read_18 : decode cX11_read 18 = .ok (.iload_n 1, 1) := by decide +kernel
theorem dX11_read_19 : decode cX11_read 19 = .ok (.iload_n 2, 1) := by decide +kernel
theorem dX11_read_20 : decode cX11_read 20 = .ok (.iload_n 3, 1) := by decide +kernel
theorem dX11_read_21 : decode cX11_read 21 = .ok (.aload_n 0, 1) := by decide +kernel
theorem dX11_read_22 : decode cX11_read 22 = .ok (.getfield 14, 3) := by decide +kernel
theorem dX11_read_25 : decode cX11_read 25 = .ok (.invokevirtual 136, 3) := by decide +kernel
theorem dX11_read_28 : decode cX11_read 28 = .ok (.invokevirtual 140, 3) := by decide +kernel
theorem dX11_read_31 : decode cX11_read 31 = .ok (.ireturn, 1) := by decide +kernel
theorem dX11_latch_0 : decode cX11_latch 0 = .ok (.iload_n 1, 1) := by decide +kernel
theorem dX11_latch_1 : decode cX11_latch 1 = .ok (.tableswitch 81 0 2 #[27, 36, 44], 27) := by decide +kernel
theorem dX11_latch_28 : decode cX11_latch 28 = .ok (.aload_n 0, 1) := by decide +kernel
theorem dX11_latch_29 : decode cX11_latch 29 = .ok (.getfield 14, 3) := by decide +kernel
theorem dX11_latch_32 : decode cX11_latch 32 = .ok (.getfield 143, 3) := by decide +kernel
theorem dX11_latch_35 : decode cX11_latch 35 = .ok (.i2l, 1) := by decide +kernel
theorem dX11_latch_36 : decode cX11_latch 36 = .ok (.lreturn, 1) := by decide +kernel
theorem dX11_latch_37 : decode cX11_latch 37 = .ok (.aload_n 0, 1) := by decide +kernel
theorem dX11_latch_38 : decode cX11_latch 38 = .ok (.getfield 14, 3) := by decide +kernel
theorem dX11_latch_41 : decode cX11_latch 41 = .ok (.getfield 146, 3) := by decide +kernel
theorem dX11_latch_44 : decode cX11_latch 44 = .ok (.lreturn, 1) := by decide +kernel
theorem dX11_latch_45 : decode cX11_latch 45 = .ok (.aload_n 0, 1) := by decide +kernel
theorem dX11_latch_46 : decode cX11_latch 46 = .ok (.getfield 14, 3) := by decide +kernel
theorem dX11_latch_49 : decode cX11_latch 49 = .ok (.getfield 143, 3) := by decide +kernel
theorem dX11_latch_52 : decode cX11_latch 52 = .ok (.invokestatic 150, 3) := by decide +kernel
theorem dX11_latch_55 : decode cX11_latch 55 = .ok (.ifCond .eq 23, 3) := by decide +kernel
theorem dX11_latch_58 : decode cX11_latch 58 = .ok (.aload_n 0, 1) := by decide +kernel
theorem dX11_latch_59 : decode cX11_latch 59 = .ok (.getfield 14, 3) := by decide +kernel
theorem dX11_latch_62 : decode cX11_latch 62 = .ok (.getfield 143, 3) := by decide +kernel
theorem dX11_latch_65 : decode cX11_latch 65 = .ok (.aload_n 0, 1) := by decide +kernel
theorem dX11_latch_66 : decode cX11_latch 66 = .ok (.getfield 14, 3) := by decide +kernel
theorem dX11_latch_69 : decode cX11_latch 69 = .ok (.getfield 146, 3) := by decide +kernel
theorem dX11_latch_72 : decode cX11_latch 72 = .ok (.invokestatic 155, 3) := by decide +kernel
theorem dX11_latch_75 : decode cX11_latch 75 = .ok (.goto 6, 3) := by decide +kernel
theorem dX11_latch_78 : decode cX11_latch 78 = .ok (.ldc2_w 159, 3) := by decide +kernel
theorem dX11_latch_81 : decode cX11_latch 81 = .ok (.lreturn, 1) := by decide +kernel
theorem dX11_latch_82 : decode cX11_latch 82 = .ok (.ldc2_w 159, 3) := by decide +kernel
theorem dX11_latch_85 : decode cX11_latch 85 = .ok (.lreturn, 1) := by decide +kernel
theorem dX11_write_0 : decode cX11_write 0 = .ok (.iload_n 1, 1) := by decide +kernel
theorem dX11_write_1 : decode cX11_write 1 = .ok (.invokestatic 80, 3) := by decide +kernel
theorem dX11_write_4 : decode cX11_write 4 = .ok (.ifCond .eq 10, 3) := by decide +kernel
theorem dX11_write_7 : decode cX11_write 7 = .ok (.iload_n 3, 1) := by decide +kernel
theorem dX11_write_8 : decode cX11_write 8 = .ok (.invokestatic 161, 3) := by decide +kernel
theorem dX11_write_11 : decode cX11_write 11 = .ok (.ifCond .ne 5, 3) := by decide +kernel
theorem dX11_write_14 : decode cX11_write 14 = .ok (.iconst (-1), 1) := by decide +kernel
theorem dX11_write_15 : decode cX11_write 15 = .ok (.ireturn, 1) := by decide +kernel
theorem dX11_write_16 : decode cX11_write 16 = .ok (.aload_n 0, 1) := by decide +kernel
theorem dX11_write_17 : decode cX11_write 17 = .ok (.getfield 18, 3) := by decide +kernel
theorem dX11_write_20 : decode cX11_write 20 = .ok (.iload_n 3, 1) := by decide +kernel
theorem dX11_write_21 : decode cX11_write 21 = .ok (.iload_n 3, 1) := by decide +kernel
theorem dX11_write_22 : decode cX11_write 22 = .ok (.lload 4, 2) := by decide +kernel
theorem dX11_write_24 : decode cX11_write 24 = .ok (.invokestatic 164, 3) := by decide +kernel
theorem dX11_write_27 : decode cX11_write 27 = .ok (.invokevirtual 167, 3) := by decide +kernel
theorem dX11_write_30 : decode cX11_write 30 = .ok (.aload_n 0, 1) := by decide +kernel
theorem dX11_write_31 : decode cX11_write 31 = .ok (.aload_n 0, 1) := by decide +kernel
theorem dX11_write_32 : decode cX11_write 32 = .ok (.iload_n 1, 1) := by decide +kernel
theorem dX11_write_33 : decode cX11_write 33 = .ok (.iload_n 2, 1) := by decide +kernel
theorem dX11_write_34 : decode cX11_write 34 = .ok (.iload_n 3, 1) := by decide +kernel
theorem dX11_write_35 : decode cX11_write 35 = .ok (.aload_n 0, 1) := by decide +kernel
theorem dX11_write_36 : decode cX11_write 36 = .ok (.getfield 18, 3) := by decide +kernel
theorem dX11_write_39 : decode cX11_write 39 = .ok (.invokevirtual 171, 3) := by decide +kernel
theorem dX11_write_42 : decode cX11_write 42 = .ok (.invokevirtual 174, 3) := by decide +kernel
theorem dX11_write_45 : decode cX11_write 45 = .ok (.ireturn, 1) := by decide +kernel
theorem dX11_real_0 : decode cX11_real 0 = .ok (.iload_n 1, 1) := by decide +kernel
theorem dX11_real_1 : decode cX11_real 1 = .ok (.invokestatic 80, 3) := by decide +kernel
theorem dX11_real_4 : decode cX11_real 4 = .ok (.ifCond .eq 15, 3) := by decide +kernel
theorem dX11_real_7 : decode cX11_real 7 = .ok (.iload_n 3, 1) := by decide +kernel
theorem dX11_real_8 : decode cX11_real 8 = .ok (.bipush 6, 2) := by decide +kernel
theorem dX11_real_10 : decode cX11_real 10 = .ok (.if_icmp .eq 11, 3) := by decide +kernel
theorem dX11_real_13 : decode cX11_real 13 = .ok (.iload_n 3, 1) := by decide +kernel
theorem dX11_real_14 : decode cX11_real 14 = .ok (.bipush 7, 2) := by decide +kernel
theorem dX11_real_16 : decode cX11_real 16 = .ok (.if_icmp .eq 5, 3) := by decide +kernel
theorem dX11_real_19 : decode cX11_real 19 = .ok (.iconst (-1), 1) := by decide +kernel
theorem dX11_real_20 : decode cX11_real 20 = .ok (.ireturn, 1) := by decide +kernel
theorem dX11_real_21 : decode cX11_real 21 = .ok (.iload 5, 2) := by decide +kernel
theorem dX11_real_23 : decode cX11_real 23 = .ok (.ifCond .ne 6, 3) := by decide +kernel
theorem dX11_real_26 : decode cX11_real 26 = .ok (.bipush (-2), 2) := by decide +kernel
theorem dX11_real_28 : decode cX11_real 28 = .ok (.ireturn, 1) := by decide +kernel
theorem dX11_real_29 : decode cX11_real 29 = .ok (.aload_n 0, 1) := by decide +kernel
theorem dX11_real_30 : decode cX11_real 30 = .ok (.getfield 18, 3) := by decide +kernel
theorem dX11_real_33 : decode cX11_real 33 = .ok (.iload_n 3, 1) := by decide +kernel
theorem dX11_real_34 : decode cX11_real 34 = .ok (.iload_n 3, 1) := by decide +kernel
theorem dX11_real_35 : decode cX11_real 35 = .ok (.iload 4, 2) := by decide +kernel
theorem dX11_real_37 : decode cX11_real 37 = .ok (.iload 5, 2) := by decide +kernel
theorem dX11_real_39 : decode cX11_real 39 = .ok (.invokestatic 177, 3) := by decide +kernel
theorem dX11_real_42 : decode cX11_real 42 = .ok (.invokevirtual 167, 3) := by decide +kernel
theorem dX11_real_45 : decode cX11_real 45 = .ok (.aload_n 0, 1) := by decide +kernel
theorem dX11_real_46 : decode cX11_real 46 = .ok (.aload_n 0, 1) := by decide +kernel
theorem dX11_real_47 : decode cX11_real 47 = .ok (.iload_n 1, 1) := by decide +kernel
theorem dX11_real_48 : decode cX11_real 48 = .ok (.iload_n 2, 1) := by decide +kernel
theorem dX11_real_49 : decode cX11_real 49 = .ok (.iload_n 3, 1) := by decide +kernel
theorem dX11_real_50 : decode cX11_real 50 = .ok (.aload_n 0, 1) := by decide +kernel
theorem dX11_real_51 : decode cX11_real 51 = .ok (.getfield 18, 3) := by decide +kernel
theorem dX11_real_54 : decode cX11_real 54 = .ok (.invokevirtual 171, 3) := by decide +kernel
theorem dX11_real_57 : decode cX11_real 57 = .ok (.invokevirtual 174, 3) := by decide +kernel
theorem dX11_real_60 : decode cX11_real 60 = .ok (.ireturn, 1) := by decide +kernel
theorem dX11_box_0 : decode cX11_box 0 = .ok (.iload_n 1, 1) := by decide +kernel
theorem dX11_box_1 : decode cX11_box 1 = .ok (.invokestatic 80, 3) := by decide +kernel
theorem dX11_box_4 : decode cX11_box 4 = .ok (.ifCond .eq 10, 3) := by decide +kernel
theorem dX11_box_7 : decode cX11_box 7 = .ok (.iload_n 3, 1) := by decide +kernel
theorem dX11_box_8 : decode cX11_box 8 = .ok (.invokestatic 181, 3) := by decide +kernel
theorem dX11_box_11 : decode cX11_box 11 = .ok (.ifCond .ne 5, 3) := by decide +kernel
theorem dX11_box_14 : decode cX11_box 14 = .ok (.iconst (-1), 1) := by decide +kernel
theorem dX11_box_15 : decode cX11_box 15 = .ok (.ireturn, 1) := by decide +kernel
theorem dX11_box_16 : decode cX11_box 16 = .ok (.iload_n 3, 1) := by decide +kernel
theorem dX11_box_17 : decode cX11_box 17 = .ok (.lload 4, 2) := by decide +kernel
theorem dX11_box_19 : decode cX11_box 19 = .ok (.invokestatic 184, 3) := by decide +kernel
theorem dX11_box_22 : decode cX11_box 22 = .ok (.ifCond .ne 6, 3) := by decide +kernel
theorem dX11_box_25 : decode cX11_box 25 = .ok (.bipush (-2), 2) := by decide +kernel
theorem dX11_box_27 : decode cX11_box 27 = .ok (.ireturn, 1) := by decide +kernel
theorem dX11_box_28 : decode cX11_box 28 = .ok (.aload_n 0, 1) := by decide +kernel
theorem dX11_box_29 : decode cX11_box 29 = .ok (.getfield 18, 3) := by decide +kernel
theorem dX11_box_32 : decode cX11_box 32 = .ok (.iload_n 3, 1) := by decide +kernel
theorem dX11_box_33 : decode cX11_box 33 = .ok (.iload_n 3, 1) := by decide +kernel
theorem dX11_box_34 : decode cX11_box 34 = .ok (.lload 4, 2) := by decide +kernel
theorem dX11_box_36 : decode cX11_box 36 = .ok (.invokestatic 164, 3) := by decide +kernel
theorem dX11_box_39 : decode cX11_box 39 = .ok (.invokevirtual 167, 3) := by decide +kernel
theorem dX11_box_42 : decode cX11_box 42 = .ok (.aload_n 0, 1) := by decide +kernel
theorem dX11_box_43 : decode cX11_box 43 = .ok (.aload_n 0, 1) := by decide +kernel
theorem dX11_box_44 : decode cX11_box 44 = .ok (.iload_n 1, 1) := by decide +kernel
theorem dX11_box_45 : decode cX11_box 45 = .ok (.iload_n 2, 1) := by decide +kernel
theorem dX11_box_46 : decode cX11_box 46 = .ok (.bipush 8, 2) := by decide +kernel
theorem dX11_box_48 : decode cX11_box 48 = .ok (.aload_n 0, 1) := by decide +kernel
theorem dX11_box_49 : decode cX11_box 49 = .ok (.getfield 18, 3) := by decide +kernel
theorem dX11_box_52 : decode cX11_box 52 = .ok (.invokevirtual 171, 3) := by decide +kernel
theorem dX11_box_55 : decode cX11_box 55 = .ok (.invokevirtual 174, 3) := by decide +kernel
theorem dX11_box_58 : decode cX11_box 58 = .ok (.ireturn, 1) := by decide +kernel
theorem dX11_window_0 : decode cX11_window 0 = .ok (.aload_n 0, 1) := by decide +kernel
theorem dX11_window_1 : decode cX11_window 1 = .ok (.getfield 59, 3) := by decide +kernel
theorem dX11_window_4 : decode cX11_window 4 = .ok (.iload_n 1, 1) := by decide +kernel
theorem dX11_window_5 : decode cX11_window 5 = .ok (.invokevirtual 188, 3) := by decide +kernel
theorem dX11_window_8 : decode cX11_window 8 = .ok (.astore 7, 2) := by decide +kernel
theorem dX11_window_10 : decode cX11_window 10 = .ok (.aload 7, 2) := by decide +kernel
theorem dX11_window_12 : decode cX11_window 12 = .ok (.ifnull 10, 3) := by decide +kernel
theorem dX11_window_15 : decode cX11_window 15 = .ok (.iload_n 2, 1) := by decide +kernel
theorem dX11_window_16 : decode cX11_window 16 = .ok (.invokestatic 80, 3) := by decide +kernel
theorem dX11_window_19 : decode cX11_window 19 = .ok (.ifCond .ne 5, 3) := by decide +kernel
theorem dX11_window_22 : decode cX11_window 22 = .ok (.iconst (-1), 1) := by decide +kernel
theorem dX11_window_23 : decode cX11_window 23 = .ok (.ireturn, 1) := by decide +kernel
theorem dX11_window_24 : decode cX11_window 24 = .ok (.iload_n 3, 1) := by decide +kernel
theorem dX11_window_25 : decode cX11_window 25 = .ok (.bipush (-9), 2) := by decide +kernel
theorem dX11_window_27 : decode cX11_window 27 = .ok (.if_icmp .lt 42, 3) := by decide +kernel
theorem dX11_window_30 : decode cX11_window 30 = .ok (.iload_n 3, 1) := by decide +kernel
theorem dX11_window_31 : decode cX11_window 31 = .ok (.bipush 40, 2) := by decide +kernel
theorem dX11_window_33 : decode cX11_window 33 = .ok (.if_icmp .gt 36, 3) := by decide +kernel
theorem dX11_window_36 : decode cX11_window 36 = .ok (.iload 4, 2) := by decide +kernel
theorem dX11_window_38 : decode cX11_window 38 = .ok (.bipush (-3), 2) := by decide +kernel
theorem dX11_window_40 : decode cX11_window 40 = .ok (.if_icmp .lt 29, 3) := by decide +kernel
theorem dX11_window_43 : decode cX11_window 43 = .ok (.iload 4, 2) := by decide +kernel
theorem dX11_window_45 : decode cX11_window 45 = .ok (.iconst 3, 1) := by decide +kernel
theorem dX11_window_46 : decode cX11_window 46 = .ok (.if_icmp .gt 23, 3) := by decide +kernel
theorem dX11_window_49 : decode cX11_window 49 = .ok (.iload 5, 2) := by decide +kernel
theorem dX11_window_51 : decode cX11_window 51 = .ok (.ifCond .lt 18, 3) := by decide +kernel
theorem dX11_window_54 : decode cX11_window 54 = .ok (.iload 5, 2) := by decide +kernel
theorem dX11_window_56 : decode cX11_window 56 = .ok (.bipush 32, 2) := by decide +kernel
theorem dX11_window_58 : decode cX11_window 58 = .ok (.if_icmp .gt 11, 3) := by decide +kernel
theorem dX11_window_61 : decode cX11_window 61 = .ok (.iload 6, 2) := by decide +kernel
theorem dX11_window_63 : decode cX11_window 63 = .ok (.invokestatic 133, 3) := by decide +kernel
theorem dX11_window_66 : decode cX11_window 66 = .ok (.ifCond .ne 6, 3) := by decide +kernel
theorem dX11_window_69 : decode cX11_window 69 = .ok (.bipush (-2), 2) := by decide +kernel
theorem dX11_window_71 : decode cX11_window 71 = .ok (.ireturn, 1) := by decide +kernel
theorem dX11_window_72 : decode cX11_window 72 = .ok (.aload 7, 2) := by decide +kernel
theorem dX11_window_74 : decode cX11_window 74 = .ok (.iload_n 2, 1) := by decide +kernel
theorem dX11_window_75 : decode cX11_window 75 = .ok (.iload_n 3, 1) := by decide +kernel
theorem dX11_window_76 : decode cX11_window 76 = .ok (.iload 4, 2) := by decide +kernel
theorem dX11_window_78 : decode cX11_window 78 = .ok (.iload 5, 2) := by decide +kernel
theorem dX11_window_80 : decode cX11_window 80 = .ok (.iload 6, 2) := by decide +kernel
theorem dX11_window_82 : decode cX11_window 82 = .ok (.invokevirtual 192, 3) := by decide +kernel
theorem dX11_window_85 : decode cX11_window 85 = .ok (.iconst 1, 1) := by decide +kernel
theorem dX11_window_86 : decode cX11_window 86 = .ok (.ireturn, 1) := by decide +kernel
theorem dX11_windowOf_0 : decode cX11_windowOf 0 = .ok (.aload_n 0, 1) := by decide +kernel
theorem dX11_windowOf_1 : decode cX11_windowOf 1 = .ok (.getfield 59, 3) := by decide +kernel
theorem dX11_windowOf_4 : decode cX11_windowOf 4 = .ok (.iload_n 1, 1) := by decide +kernel
theorem dX11_windowOf_5 : decode cX11_windowOf 5 = .ok (.invokevirtual 188, 3) := by decide +kernel
theorem dX11_windowOf_8 : decode cX11_windowOf 8 = .ok (.astore_n 3, 1) := by decide +kernel
theorem dX11_windowOf_9 : decode cX11_windowOf 9 = .ok (.aload_n 3, 1) := by decide +kernel
theorem dX11_windowOf_10 : decode cX11_windowOf 10 = .ok (.ifnonnull 5, 3) := by decide +kernel
theorem dX11_windowOf_13 : decode cX11_windowOf 13 = .ok (.iconst (-1), 1) := by decide +kernel
theorem dX11_windowOf_14 : decode cX11_windowOf 14 = .ok (.ireturn, 1) := by decide +kernel
theorem dX11_windowOf_15 : decode cX11_windowOf 15 = .ok (.iload_n 2, 1) := by decide +kernel
theorem dX11_windowOf_16 : decode cX11_windowOf 16 = .ok (.tableswitch 61 0 4 #[36, 41, 46, 51, 56], 36) := by decide +kernel
theorem dX11_windowOf_52 : decode cX11_windowOf 52 = .ok (.aload_n 3, 1) := by decide +kernel
theorem dX11_windowOf_53 : decode cX11_windowOf 53 = .ok (.getfield 197, 3) := by decide +kernel
theorem dX11_windowOf_56 : decode cX11_windowOf 56 = .ok (.ireturn, 1) := by decide +kernel
theorem dX11_windowOf_57 : decode cX11_windowOf 57 = .ok (.aload_n 3, 1) := by decide +kernel
theorem dX11_windowOf_58 : decode cX11_windowOf 58 = .ok (.getfield 200, 3) := by decide +kernel
theorem dX11_windowOf_61 : decode cX11_windowOf 61 = .ok (.ireturn, 1) := by decide +kernel
theorem dX11_windowOf_62 : decode cX11_windowOf 62 = .ok (.aload_n 3, 1) := by decide +kernel
theorem dX11_windowOf_63 : decode cX11_windowOf 63 = .ok (.getfield 203, 3) := by decide +kernel
theorem dX11_windowOf_66 : decode cX11_windowOf 66 = .ok (.ireturn, 1) := by decide +kernel
theorem dX11_windowOf_67 : decode cX11_windowOf 67 = .ok (.aload_n 3, 1) := by decide +kernel
theorem dX11_windowOf_68 : decode cX11_windowOf 68 = .ok (.getfield 206, 3) := by decide +kernel
theorem dX11_windowOf_71 : decode cX11_windowOf 71 = .ok (.ireturn, 1) := by decide +kernel
theorem dX11_windowOf_72 : decode cX11_windowOf 72 = .ok (.aload_n 3, 1) := by decide +kernel
theorem dX11_windowOf_73 : decode cX11_windowOf 73 = .ok (.getfield 209, 3) := by decide +kernel
theorem dX11_windowOf_76 : decode cX11_windowOf 76 = .ok (.ireturn, 1) := by decide +kernel
theorem dX11_windowOf_77 : decode cX11_windowOf 77 = .ok (.iconst (-1), 1) := by decide +kernel
theorem dX11_windowOf_78 : decode cX11_windowOf 78 = .ok (.ireturn, 1) := by decide +kernel
theorem dX11_look_0 : decode cX11_look 0 = .ok (.aload_n 0, 1) := by decide +kernel
theorem dX11_look_1 : decode cX11_look 1 = .ok (.getfield 59, 3) := by decide +kernel
theorem dX11_look_4 : decode cX11_look 4 = .ok (.iload_n 1, 1) := by decide +kernel
theorem dX11_look_5 : decode cX11_look 5 = .ok (.invokevirtual 188, 3) := by decide +kernel
theorem dX11_look_8 : decode cX11_look 8 = .ok (.astore_n 3, 1) := by decide +kernel
theorem dX11_look_9 : decode cX11_look 9 = .ok (.aload_n 3, 1) := by decide +kernel
theorem dX11_look_10 : decode cX11_look 10 = .ok (.ifnonnull 5, 3) := by decide +kernel
theorem dX11_look_13 : decode cX11_look 13 = .ok (.iconst (-1), 1) := by decide +kernel
theorem dX11_look_14 : decode cX11_look 14 = .ok (.ireturn, 1) := by decide +kernel
theorem dX11_look_15 : decode cX11_look 15 = .ok (.aload_n 0, 1) := by decide +kernel
theorem dX11_look_16 : decode cX11_look 16 = .ok (.aload_n 0, 1) := by decide +kernel
theorem dX11_look_17 : decode cX11_look 17 = .ok (.aload_n 3, 1) := by decide +kernel
theorem dX11_look_18 : decode cX11_look 18 = .ok (.iload_n 2, 1) := by decide +kernel
theorem dX11_look_19 : decode cX11_look 19 = .ok (.aload_n 3, 1) := by decide +kernel
theorem dX11_look_20 : decode cX11_look 20 = .ok (.getfield 209, 3) := by decide +kernel
theorem dX11_look_23 : decode cX11_look 23 = .ok (.aload_n 0, 1) := by decide +kernel
theorem dX11_look_24 : decode cX11_look 24 = .ok (.getfield 14, 3) := by decide +kernel
theorem dX11_look_27 : decode cX11_look 27 = .ok (.invokevirtual 212, 3) := by decide +kernel
theorem dX11_look_30 : decode cX11_look 30 = .ok (.invokevirtual 140, 3) := by decide +kernel
theorem dX11_look_33 : decode cX11_look 33 = .ok (.ireturn, 1) := by decide +kernel
theorem dX11_sum_0 : decode cX11_sum 0 = .ok (.aload_n 0, 1) := by decide +kernel
theorem dX11_sum_1 : decode cX11_sum 1 = .ok (.getfield 59, 3) := by decide +kernel
theorem dX11_sum_4 : decode cX11_sum 4 = .ok (.iload_n 1, 1) := by decide +kernel
theorem dX11_sum_5 : decode cX11_sum 5 = .ok (.invokevirtual 188, 3) := by decide +kernel
theorem dX11_sum_8 : decode cX11_sum 8 = .ok (.astore_n 2, 1) := by decide +kernel
theorem dX11_sum_9 : decode cX11_sum 9 = .ok (.aload_n 2, 1) := by decide +kernel
theorem dX11_sum_10 : decode cX11_sum 10 = .ok (.ifnull 13, 3) := by decide +kernel
theorem dX11_sum_13 : decode cX11_sum 13 = .ok (.aload_n 0, 1) := by decide +kernel
theorem dX11_sum_14 : decode cX11_sum 14 = .ok (.aload_n 2, 1) := by decide +kernel
theorem dX11_sum_15 : decode cX11_sum 15 = .ok (.invokevirtual 216, 3) := by decide +kernel
theorem dX11_sum_18 : decode cX11_sum 18 = .ok (.bipush (-5), 2) := by decide +kernel
theorem dX11_sum_20 : decode cX11_sum 20 = .ok (.if_icmp .eq 7, 3) := by decide +kernel
theorem dX11_sum_23 : decode cX11_sum 23 = .ok (.ldc2_w 159, 3) := by decide +kernel
theorem dX11_sum_26 : decode cX11_sum 26 = .ok (.lreturn, 1) := by decide +kernel
theorem dX11_sum_27 : decode cX11_sum 27 = .ok (.lconst 0, 1) := by decide +kernel
theorem dX11_sum_28 : decode cX11_sum 28 = .ok (.lstore_n 3, 1) := by decide +kernel
theorem dX11_sum_29 : decode cX11_sum 29 = .ok (.iconst 0, 1) := by decide +kernel
theorem dX11_sum_30 : decode cX11_sum 30 = .ok (.istore 5, 2) := by decide +kernel
theorem dX11_sum_32 : decode cX11_sum 32 = .ok (.iload 5, 2) := by decide +kernel
theorem dX11_sum_34 : decode cX11_sum 34 = .ok (.aload_n 2, 1) := by decide +kernel
theorem dX11_sum_35 : decode cX11_sum 35 = .ok (.getfield 206, 3) := by decide +kernel
theorem dX11_sum_38 : decode cX11_sum 38 = .ok (.if_icmp .ge 48, 3) := by decide +kernel
theorem dX11_sum_41 : decode cX11_sum 41 = .ok (.aload_n 0, 1) := by decide +kernel
theorem dX11_sum_42 : decode cX11_sum 42 = .ok (.aload_n 2, 1) := by decide +kernel
theorem dX11_sum_43 : decode cX11_sum 43 = .ok (.iload 5, 2) := by decide +kernel
theorem dX11_sum_45 : decode cX11_sum 45 = .ok (.aload_n 2, 1) := by decide +kernel
theorem dX11_sum_46 : decode cX11_sum 46 = .ok (.getfield 209, 3) := by decide +kernel
theorem dX11_sum_49 : decode cX11_sum 49 = .ok (.aload_n 0, 1) := by decide +kernel
theorem dX11_sum_50 : decode cX11_sum 50 = .ok (.getfield 18, 3) := by decide +kernel
theorem dX11_sum_53 : decode cX11_sum 53 = .ok (.invokevirtual 212, 3) := by decide +kernel
theorem dX11_sum_56 : decode cX11_sum 56 = .ok (.iconst 1, 1) := by decide +kernel
theorem dX11_sum_57 : decode cX11_sum 57 = .ok (.if_icmp .ne 23, 3) := by decide +kernel
theorem dX11_sum_60 : decode cX11_sum 60 = .ok (.lload_n 3, 1) := by decide +kernel
theorem dX11_sum_61 : decode cX11_sum 61 = .ok (.aload_n 0, 1) := by decide +kernel
theorem dX11_sum_62 : decode cX11_sum 62 = .ok (.getfield 18, 3) := by decide +kernel
theorem dX11_sum_65 : decode cX11_sum 65 = .ok (.getfield 143, 3) := by decide +kernel
theorem dX11_sum_68 : decode cX11_sum 68 = .ok (.aload_n 0, 1) := by decide +kernel
theorem dX11_sum_69 : decode cX11_sum 69 = .ok (.getfield 18, 3) := by decide +kernel
theorem dX11_sum_72 : decode cX11_sum 72 = .ok (.getfield 146, 3) := by decide +kernel
theorem dX11_sum_75 : decode cX11_sum 75 = .ok (.invokestatic 155, 3) := by decide +kernel
theorem dX11_sum_78 : decode cX11_sum 78 = .ok (.ladd, 1) := by decide +kernel
theorem dX11_sum_79 : decode cX11_sum 79 = .ok (.lstore_n 3, 1) := by decide +kernel
theorem dX11_sum_80 : decode cX11_sum 80 = .ok (.iinc 5 1, 3) := by decide +kernel
theorem dX11_sum_83 : decode cX11_sum 83 = .ok (.goto (-51), 3) := by decide +kernel
theorem dX11_sum_86 : decode cX11_sum 86 = .ok (.lload_n 3, 1) := by decide +kernel
theorem dX11_sum_87 : decode cX11_sum 87 = .ok (.lreturn, 1) := by decide +kernel
theorem dX11_fault_0 : decode cX11_fault 0 = .ok (.aload_n 0, 1) := by decide +kernel
theorem dX11_fault_1 : decode cX11_fault 1 = .ok (.getfield 59, 3) := by decide +kernel
theorem dX11_fault_4 : decode cX11_fault 4 = .ok (.iload_n 1, 1) := by decide +kernel
theorem dX11_fault_5 : decode cX11_fault 5 = .ok (.invokevirtual 188, 3) := by decide +kernel
theorem dX11_fault_8 : decode cX11_fault 8 = .ok (.astore_n 3, 1) := by decide +kernel
theorem dX11_fault_9 : decode cX11_fault 9 = .ok (.aload_n 3, 1) := by decide +kernel
theorem dX11_fault_10 : decode cX11_fault 10 = .ok (.ifnull 12, 3) := by decide +kernel
theorem dX11_fault_13 : decode cX11_fault 13 = .ok (.iload_n 2, 1) := by decide +kernel
theorem dX11_fault_14 : decode cX11_fault 14 = .ok (.ifCond .lt 8, 3) := by decide +kernel
theorem dX11_fault_17 : decode cX11_fault 17 = .ok (.iload_n 2, 1) := by decide +kernel
theorem dX11_fault_18 : decode cX11_fault 18 = .ok (.iconst 1, 1) := by decide +kernel
theorem dX11_fault_19 : decode cX11_fault 19 = .ok (.if_icmp .le 5, 3) := by decide +kernel
theorem dX11_fault_22 : decode cX11_fault 22 = .ok (.iconst (-1), 1) := by decide +kernel
theorem dX11_fault_23 : decode cX11_fault 23 = .ok (.ireturn, 1) := by decide +kernel
theorem dX11_fault_24 : decode cX11_fault 24 = .ok (.aload_n 0, 1) := by decide +kernel
theorem dX11_fault_25 : decode cX11_fault 25 = .ok (.aload_n 3, 1) := by decide +kernel
theorem dX11_fault_26 : decode cX11_fault 26 = .ok (.invokevirtual 216, 3) := by decide +kernel
theorem dX11_fault_29 : decode cX11_fault 29 = .ok (.istore 4, 2) := by decide +kernel
theorem dX11_fault_31 : decode cX11_fault 31 = .ok (.iload_n 2, 1) := by decide +kernel
theorem dX11_fault_32 : decode cX11_fault 32 = .ok (.ifCond .eq 10, 3) := by decide +kernel
theorem dX11_fault_35 : decode cX11_fault 35 = .ok (.iload 4, 2) := by decide +kernel
theorem dX11_fault_37 : decode cX11_fault 37 = .ok (.bipush (-5), 2) := by decide +kernel
theorem dX11_fault_39 : decode cX11_fault 39 = .ok (.if_icmp .ne 6, 3) := by decide +kernel
theorem dX11_fault_42 : decode cX11_fault 42 = .ok (.iload 4, 2) := by decide +kernel
theorem dX11_fault_44 : decode cX11_fault 44 = .ok (.ireturn, 1) := by decide +kernel
theorem dX11_fault_45 : decode cX11_fault 45 = .ok (.aload_n 0, 1) := by decide +kernel
theorem dX11_fault_46 : decode cX11_fault 46 = .ok (.aload_n 3, 1) := by decide +kernel
theorem dX11_fault_47 : decode cX11_fault 47 = .ok (.iload 4, 2) := by decide +kernel
theorem dX11_fault_49 : decode cX11_fault 49 = .ok (.invokevirtual 220, 3) := by decide +kernel
theorem dX11_fault_52 : decode cX11_fault 52 = .ok (.ireturn, 1) := by decide +kernel
theorem dX11_least_0 : decode cX11_least 0 = .ok (.aload_n 0, 1) := by decide +kernel
theorem dX11_least_1 : decode cX11_least 1 = .ok (.getfield 59, 3) := by decide +kernel
theorem dX11_least_4 : decode cX11_least 4 = .ok (.iload_n 1, 1) := by decide +kernel
theorem dX11_least_5 : decode cX11_least 5 = .ok (.invokevirtual 188, 3) := by decide +kernel
theorem dX11_least_8 : decode cX11_least 8 = .ok (.astore_n 3, 1) := by decide +kernel
theorem dX11_least_9 : decode cX11_least 9 = .ok (.aload_n 3, 1) := by decide +kernel
theorem dX11_least_10 : decode cX11_least 10 = .ok (.ifnull 7, 3) := by decide +kernel
theorem dX11_least_13 : decode cX11_least 13 = .ok (.iload_n 2, 1) := by decide +kernel
theorem dX11_least_14 : decode cX11_least 14 = .ok (.ifCond .ge 5, 3) := by decide +kernel
theorem dX11_least_17 : decode cX11_least 17 = .ok (.iconst (-1), 1) := by decide +kernel
theorem dX11_least_18 : decode cX11_least 18 = .ok (.ireturn, 1) := by decide +kernel
theorem dX11_least_19 : decode cX11_least 19 = .ok (.aload_n 3, 1) := by decide +kernel
theorem dX11_least_20 : decode cX11_least 20 = .ok (.getfield 209, 3) := by decide +kernel
theorem dX11_least_23 : decode cX11_least 23 = .ok (.bipush 8, 2) := by decide +kernel
theorem dX11_least_25 : decode cX11_least 25 = .ok (.if_icmp .ne 6, 3) := by decide +kernel
theorem dX11_least_28 : decode cX11_least 28 = .ok (.bipush (-2), 2) := by decide +kernel
theorem dX11_least_30 : decode cX11_least 30 = .ok (.ireturn, 1) := by decide +kernel
theorem dX11_least_31 : decode cX11_least 31 = .ok (.aload_n 0, 1) := by decide +kernel
theorem dX11_least_32 : decode cX11_least 32 = .ok (.aload_n 3, 1) := by decide +kernel
theorem dX11_least_33 : decode cX11_least 33 = .ok (.invokevirtual 216, 3) := by decide +kernel
theorem dX11_least_36 : decode cX11_least 36 = .ok (.istore 4, 2) := by decide +kernel
theorem dX11_least_38 : decode cX11_least 38 = .ok (.iload 4, 2) := by decide +kernel
theorem dX11_least_40 : decode cX11_least 40 = .ok (.bipush (-5), 2) := by decide +kernel
theorem dX11_least_42 : decode cX11_least 42 = .ok (.if_icmp .eq 11, 3) := by decide +kernel
theorem dX11_least_45 : decode cX11_least 45 = .ok (.aload_n 0, 1) := by decide +kernel
theorem dX11_least_46 : decode cX11_least 46 = .ok (.aload_n 3, 1) := by decide +kernel
theorem dX11_least_47 : decode cX11_least 47 = .ok (.iload 4, 2) := by decide +kernel
theorem dX11_least_49 : decode cX11_least 49 = .ok (.invokevirtual 220, 3) := by decide +kernel
theorem dX11_least_52 : decode cX11_least 52 = .ok (.ireturn, 1) := by decide +kernel
theorem dX11_least_53 : decode cX11_least 53 = .ok (.aload_n 0, 1) := by decide +kernel
theorem dX11_least_54 : decode cX11_least 54 = .ok (.aload_n 3, 1) := by decide +kernel
theorem dX11_least_55 : decode cX11_least 55 = .ok (.invokevirtual 224, 3) := by decide +kernel
theorem dX11_least_58 : decode cX11_least 58 = .ok (.istore 5, 2) := by decide +kernel
theorem dX11_least_60 : decode cX11_least 60 = .ok (.iconst 0, 1) := by decide +kernel
theorem dX11_least_61 : decode cX11_least 61 = .ok (.istore 6, 2) := by decide +kernel
theorem dX11_least_63 : decode cX11_least 63 = .ok (.iload 6, 2) := by decide +kernel
theorem dX11_least_65 : decode cX11_least 65 = .ok (.iload 5, 2) := by decide +kernel
theorem dX11_least_67 : decode cX11_least 67 = .ok (.if_icmp .ge 24, 3) := by decide +kernel
theorem dX11_least_70 : decode cX11_least 70 = .ok (.aload_n 0, 1) := by decide +kernel
theorem dX11_least_71 : decode cX11_least 71 = .ok (.iload 6, 2) := by decide +kernel
theorem dX11_least_73 : decode cX11_least 73 = .ok (.iload 5, 2) := by decide +kernel
theorem dX11_least_75 : decode cX11_least 75 = .ok (.invokevirtual 227, 3) := by decide +kernel
theorem dX11_least_78 : decode cX11_least 78 = .ok (.iload_n 2, 1) := by decide +kernel
theorem dX11_least_79 : decode cX11_least 79 = .ok (.if_icmp .ne 6, 3) := by decide +kernel
theorem dX11_least_82 : decode cX11_least 82 = .ok (.iload 6, 2) := by decide +kernel
theorem dX11_least_84 : decode cX11_least 84 = .ok (.ireturn, 1) := by decide +kernel
theorem dX11_least_85 : decode cX11_least 85 = .ok (.iinc 6 1, 3) := by decide +kernel
theorem dX11_least_88 : decode cX11_least 88 = .ok (.goto (-25), 3) := by decide +kernel
theorem dX11_least_91 : decode cX11_least 91 = .ok (.bipush (-5), 2) := by decide +kernel
theorem dX11_least_93 : decode cX11_least 93 = .ok (.ireturn, 1) := by decide +kernel
theorem dX11_find_0 : decode cX11_find 0 = .ok (.aload_n 0, 1) := by decide +kernel
theorem dX11_find_1 : decode cX11_find 1 = .ok (.getfield 59, 3) := by decide +kernel
theorem dX11_find_4 : decode cX11_find 4 = .ok (.iload_n 1, 1) := by decide +kernel
theorem dX11_find_5 : decode cX11_find 5 = .ok (.invokevirtual 188, 3) := by decide +kernel
theorem dX11_find_8 : decode cX11_find 8 = .ok (.astore 6, 2) := by decide +kernel
theorem dX11_find_10 : decode cX11_find 10 = .ok (.aload 6, 2) := by decide +kernel
theorem dX11_find_12 : decode cX11_find 12 = .ok (.ifnull 14, 3) := by decide +kernel
theorem dX11_find_15 : decode cX11_find 15 = .ok (.iload_n 2, 1) := by decide +kernel
theorem dX11_find_16 : decode cX11_find 16 = .ok (.ifCond .lt 10, 3) := by decide +kernel
theorem dX11_find_19 : decode cX11_find 19 = .ok (.iload_n 3, 1) := by decide +kernel
theorem dX11_find_20 : decode cX11_find 20 = .ok (.invokestatic 181, 3) := by decide +kernel
theorem dX11_find_23 : decode cX11_find 23 = .ok (.ifCond .ne 5, 3) := by decide +kernel
theorem dX11_find_26 : decode cX11_find 26 = .ok (.iconst (-1), 1) := by decide +kernel
theorem dX11_find_27 : decode cX11_find 27 = .ok (.ireturn, 1) := by decide +kernel
theorem dX11_find_28 : decode cX11_find 28 = .ok (.iload_n 3, 1) := by decide +kernel
theorem dX11_find_29 : decode cX11_find 29 = .ok (.lload 4, 2) := by decide +kernel
theorem dX11_find_31 : decode cX11_find 31 = .ok (.invokestatic 184, 3) := by decide +kernel
theorem dX11_find_34 : decode cX11_find 34 = .ok (.ifCond .ne 6, 3) := by decide +kernel
theorem dX11_find_37 : decode cX11_find 37 = .ok (.bipush (-2), 2) := by decide +kernel
theorem dX11_find_39 : decode cX11_find 39 = .ok (.ireturn, 1) := by decide +kernel
theorem dX11_find_40 : decode cX11_find 40 = .ok (.aload_n 0, 1) := by decide +kernel
theorem dX11_find_41 : decode cX11_find 41 = .ok (.getfield 21, 3) := by decide +kernel
theorem dX11_find_44 : decode cX11_find 44 = .ok (.iload_n 3, 1) := by decide +kernel
theorem dX11_find_45 : decode cX11_find 45 = .ok (.iload_n 3, 1) := by decide +kernel
theorem dX11_find_46 : decode cX11_find 46 = .ok (.lload 4, 2) := by decide +kernel
theorem dX11_find_48 : decode cX11_find 48 = .ok (.invokestatic 164, 3) := by decide +kernel
theorem dX11_find_51 : decode cX11_find 51 = .ok (.invokevirtual 167, 3) := by decide +kernel
theorem dX11_find_54 : decode cX11_find 54 = .ok (.iload_n 2, 1) := by decide +kernel
theorem dX11_find_55 : decode cX11_find 55 = .ok (.istore 7, 2) := by decide +kernel
theorem dX11_find_57 : decode cX11_find 57 = .ok (.iload 7, 2) := by decide +kernel
theorem dX11_find_59 : decode cX11_find 59 = .ok (.aload 6, 2) := by decide +kernel
theorem dX11_find_61 : decode cX11_find 61 = .ok (.getfield 206, 3) := by decide +kernel
theorem dX11_find_64 : decode cX11_find 64 = .ok (.if_icmp .ge 47, 3) := by decide +kernel
theorem dX11_find_67 : decode cX11_find 67 = .ok (.aload_n 0, 1) := by decide +kernel
theorem dX11_find_68 : decode cX11_find 68 = .ok (.aload 6, 2) := by decide +kernel
theorem dX11_find_70 : decode cX11_find 70 = .ok (.iload 7, 2) := by decide +kernel
theorem dX11_find_72 : decode cX11_find 72 = .ok (.aload 6, 2) := by decide +kernel
theorem dX11_find_74 : decode cX11_find 74 = .ok (.getfield 209, 3) := by decide +kernel
theorem dX11_find_77 : decode cX11_find 77 = .ok (.aload_n 0, 1) := by decide +kernel
theorem dX11_find_78 : decode cX11_find 78 = .ok (.getfield 18, 3) := by decide +kernel
theorem dX11_find_81 : decode cX11_find 81 = .ok (.invokevirtual 212, 3) := by decide +kernel
theorem dX11_find_84 : decode cX11_find 84 = .ok (.iconst 1, 1) := by decide +kernel
theorem dX11_find_85 : decode cX11_find 85 = .ok (.if_icmp .ne 20, 3) := by decide +kernel
theorem dX11_find_88 : decode cX11_find 88 = .ok (.aload_n 0, 1) := by decide +kernel
theorem dX11_find_89 : decode cX11_find 89 = .ok (.getfield 18, 3) := by decide +kernel
theorem dX11_find_92 : decode cX11_find 92 = .ok (.aload_n 0, 1) := by decide +kernel
theorem dX11_find_93 : decode cX11_find 93 = .ok (.getfield 21, 3) := by decide +kernel
theorem dX11_find_96 : decode cX11_find 96 = .ok (.invokestatic 231, 3) := by decide +kernel
theorem dX11_find_99 : decode cX11_find 99 = .ok (.ifCond .eq 6, 3) := by decide +kernel
theorem dX11_find_102 : decode cX11_find 102 = .ok (.iload 7, 2) := by decide +kernel
theorem dX11_find_104 : decode cX11_find 104 = .ok (.ireturn, 1) := by decide +kernel
theorem dX11_find_105 : decode cX11_find 105 = .ok (.iinc 7 1, 3) := by decide +kernel
theorem dX11_find_108 : decode cX11_find 108 = .ok (.goto (-51), 3) := by decide +kernel
theorem dX11_find_111 : decode cX11_find 111 = .ok (.bipush (-5), 2) := by decide +kernel
theorem dX11_find_113 : decode cX11_find 113 = .ok (.ireturn, 1) := by decide +kernel
theorem dX11_copy_0 : decode cX11_copy 0 = .ok (.aload_n 0, 1) := by decide +kernel
theorem dX11_copy_1 : decode cX11_copy 1 = .ok (.getfield 59, 3) := by decide +kernel
theorem dX11_copy_4 : decode cX11_copy 4 = .ok (.iload_n 1, 1) := by decide +kernel
theorem dX11_copy_5 : decode cX11_copy 5 = .ok (.invokevirtual 188, 3) := by decide +kernel
theorem dX11_copy_8 : decode cX11_copy 8 = .ok (.astore 4, 2) := by decide +kernel
theorem dX11_copy_10 : decode cX11_copy 10 = .ok (.aload_n 0, 1) := by decide +kernel
theorem dX11_copy_11 : decode cX11_copy 11 = .ok (.getfield 59, 3) := by decide +kernel
theorem dX11_copy_14 : decode cX11_copy 14 = .ok (.iload_n 2, 1) := by decide +kernel
theorem dX11_copy_15 : decode cX11_copy 15 = .ok (.invokevirtual 188, 3) := by decide +kernel
theorem dX11_copy_18 : decode cX11_copy 18 = .ok (.astore 5, 2) := by decide +kernel
theorem dX11_copy_20 : decode cX11_copy 20 = .ok (.aload 4, 2) := by decide +kernel
theorem dX11_copy_22 : decode cX11_copy 22 = .ok (.ifnull 17, 3) := by decide +kernel
theorem dX11_copy_25 : decode cX11_copy 25 = .ok (.aload 5, 2) := by decide +kernel
theorem dX11_copy_27 : decode cX11_copy 27 = .ok (.ifnull 12, 3) := by decide +kernel
theorem dX11_copy_30 : decode cX11_copy 30 = .ok (.iload_n 3, 1) := by decide +kernel
theorem dX11_copy_31 : decode cX11_copy 31 = .ok (.ifCond .lt 8, 3) := by decide +kernel
theorem dX11_copy_34 : decode cX11_copy 34 = .ok (.iload_n 3, 1) := by decide +kernel
theorem dX11_copy_35 : decode cX11_copy 35 = .ok (.iconst 1, 1) := by decide +kernel
theorem dX11_copy_36 : decode cX11_copy 36 = .ok (.if_icmp .le 5, 3) := by decide +kernel
theorem dX11_copy_39 : decode cX11_copy 39 = .ok (.iconst (-1), 1) := by decide +kernel
theorem dX11_copy_40 : decode cX11_copy 40 = .ok (.ireturn, 1) := by decide +kernel
theorem dX11_copy_41 : decode cX11_copy 41 = .ok (.iload_n 3, 1) := by decide +kernel
theorem dX11_copy_42 : decode cX11_copy 42 = .ok (.ifCond .ne 14, 3) := by decide +kernel
theorem dX11_copy_45 : decode cX11_copy 45 = .ok (.aload_n 0, 1) := by decide +kernel
theorem dX11_copy_46 : decode cX11_copy 46 = .ok (.aload 4, 2) := by decide +kernel
theorem dX11_copy_48 : decode cX11_copy 48 = .ok (.aload 5, 2) := by decide +kernel
theorem dX11_copy_50 : decode cX11_copy 50 = .ok (.invokevirtual 235, 3) := by decide +kernel
theorem dX11_copy_53 : decode cX11_copy 53 = .ok (.goto 11, 3) := by decide +kernel
theorem dX11_copy_56 : decode cX11_copy 56 = .ok (.aload_n 0, 1) := by decide +kernel
theorem dX11_copy_57 : decode cX11_copy 57 = .ok (.aload 4, 2) := by decide +kernel
theorem dX11_copy_59 : decode cX11_copy 59 = .ok (.aload 5, 2) := by decide +kernel
theorem dX11_copy_61 : decode cX11_copy 61 = .ok (.invokevirtual 239, 3) := by decide +kernel
theorem dX11_copy_64 : decode cX11_copy 64 = .ok (.ireturn, 1) := by decide +kernel
theorem dX11_swap_0 : decode cX11_swap 0 = .ok (.aload_n 0, 1) := by decide +kernel
theorem dX11_swap_1 : decode cX11_swap 1 = .ok (.getfield 59, 3) := by decide +kernel
theorem dX11_swap_4 : decode cX11_swap 4 = .ok (.iload_n 1, 1) := by decide +kernel
theorem dX11_swap_5 : decode cX11_swap 5 = .ok (.invokevirtual 188, 3) := by decide +kernel
theorem dX11_swap_8 : decode cX11_swap 8 = .ok (.astore_n 3, 1) := by decide +kernel
theorem dX11_swap_9 : decode cX11_swap 9 = .ok (.aload_n 0, 1) := by decide +kernel
theorem dX11_swap_10 : decode cX11_swap 10 = .ok (.getfield 59, 3) := by decide +kernel
theorem dX11_swap_13 : decode cX11_swap 13 = .ok (.iload_n 2, 1) := by decide +kernel
theorem dX11_swap_14 : decode cX11_swap 14 = .ok (.invokevirtual 188, 3) := by decide +kernel
theorem dX11_swap_17 : decode cX11_swap 17 = .ok (.astore 4, 2) := by decide +kernel
theorem dX11_swap_19 : decode cX11_swap 19 = .ok (.aload_n 3, 1) := by decide +kernel
theorem dX11_swap_20 : decode cX11_swap 20 = .ok (.ifnull 8, 3) := by decide +kernel
theorem dX11_swap_23 : decode cX11_swap 23 = .ok (.aload 4, 2) := by decide +kernel
theorem dX11_swap_25 : decode cX11_swap 25 = .ok (.ifnonnull 5, 3) := by decide +kernel
theorem dX11_swap_28 : decode cX11_swap 28 = .ok (.iconst (-1), 1) := by decide +kernel
theorem dX11_swap_29 : decode cX11_swap 29 = .ok (.ireturn, 1) := by decide +kernel
theorem dX11_swap_30 : decode cX11_swap 30 = .ok (.iconst 0, 1) := by decide +kernel
theorem dX11_swap_31 : decode cX11_swap 31 = .ok (.istore 5, 2) := by decide +kernel
theorem dX11_swap_33 : decode cX11_swap 33 = .ok (.iload 5, 2) := by decide +kernel
theorem dX11_swap_35 : decode cX11_swap 35 = .ok (.aload_n 3, 1) := by decide +kernel
theorem dX11_swap_36 : decode cX11_swap 36 = .ok (.getfield 206, 3) := by decide +kernel
theorem dX11_swap_39 : decode cX11_swap 39 = .ok (.if_icmp .ge 29, 3) := by decide +kernel
theorem dX11_swap_42 : decode cX11_swap 42 = .ok (.aload_n 0, 1) := by decide +kernel
theorem dX11_swap_43 : decode cX11_swap 43 = .ok (.aload_n 3, 1) := by decide +kernel
theorem dX11_swap_44 : decode cX11_swap 44 = .ok (.aload 4, 2) := by decide +kernel
theorem dX11_swap_46 : decode cX11_swap 46 = .ok (.iload 5, 2) := by decide +kernel
theorem dX11_swap_48 : decode cX11_swap 48 = .ok (.invokevirtual 242, 3) := by decide +kernel
theorem dX11_swap_51 : decode cX11_swap 51 = .ok (.istore 6, 2) := by decide +kernel
theorem dX11_swap_53 : decode cX11_swap 53 = .ok (.iload 6, 2) := by decide +kernel
theorem dX11_swap_55 : decode cX11_swap 55 = .ok (.iconst 1, 1) := by decide +kernel
theorem dX11_swap_56 : decode cX11_swap 56 = .ok (.if_icmp .eq 6, 3) := by decide +kernel
theorem dX11_swap_59 : decode cX11_swap 59 = .ok (.iload 6, 2) := by decide +kernel
theorem dX11_swap_61 : decode cX11_swap 61 = .ok (.ireturn, 1) := by decide +kernel
theorem dX11_swap_62 : decode cX11_swap 62 = .ok (.iinc 5 1, 3) := by decide +kernel
theorem dX11_swap_65 : decode cX11_swap 65 = .ok (.goto (-32), 3) := by decide +kernel
theorem dX11_swap_68 : decode cX11_swap 68 = .ok (.aload_n 0, 1) := by decide +kernel
theorem dX11_swap_69 : decode cX11_swap 69 = .ok (.aload_n 3, 1) := by decide +kernel
theorem dX11_swap_70 : decode cX11_swap 70 = .ok (.getfield 206, 3) := by decide +kernel
theorem dX11_swap_73 : decode cX11_swap 73 = .ok (.invokevirtual 246, 3) := by decide +kernel
theorem dX11_swap_76 : decode cX11_swap 76 = .ok (.ireturn, 1) := by decide +kernel
theorem dX11_fill_0 : decode cX11_fill 0 = .ok (.aload_n 0, 1) := by decide +kernel
theorem dX11_fill_1 : decode cX11_fill 1 = .ok (.getfield 59, 3) := by decide +kernel
theorem dX11_fill_4 : decode cX11_fill 4 = .ok (.iload_n 1, 1) := by decide +kernel
theorem dX11_fill_5 : decode cX11_fill 5 = .ok (.invokevirtual 188, 3) := by decide +kernel
theorem dX11_fill_8 : decode cX11_fill 8 = .ok (.astore 5, 2) := by decide +kernel
theorem dX11_fill_10 : decode cX11_fill 10 = .ok (.aload 5, 2) := by decide +kernel
theorem dX11_fill_12 : decode cX11_fill 12 = .ok (.ifnull 10, 3) := by decide +kernel
theorem dX11_fill_15 : decode cX11_fill 15 = .ok (.iload_n 2, 1) := by decide +kernel
theorem dX11_fill_16 : decode cX11_fill 16 = .ok (.invokestatic 181, 3) := by decide +kernel
theorem dX11_fill_19 : decode cX11_fill 19 = .ok (.ifCond .ne 5, 3) := by decide +kernel
theorem dX11_fill_22 : decode cX11_fill 22 = .ok (.iconst (-1), 1) := by decide +kernel
theorem dX11_fill_23 : decode cX11_fill 23 = .ok (.ireturn, 1) := by decide +kernel
theorem dX11_fill_24 : decode cX11_fill 24 = .ok (.iload_n 2, 1) := by decide +kernel
theorem dX11_fill_25 : decode cX11_fill 25 = .ok (.lload_n 3, 1) := by decide +kernel
theorem dX11_fill_26 : decode cX11_fill 26 = .ok (.invokestatic 184, 3) := by decide +kernel
theorem dX11_fill_29 : decode cX11_fill 29 = .ok (.ifCond .ne 6, 3) := by decide +kernel
theorem dX11_fill_32 : decode cX11_fill 32 = .ok (.bipush (-2), 2) := by decide +kernel
theorem dX11_fill_34 : decode cX11_fill 34 = .ok (.ireturn, 1) := by decide +kernel
theorem dX11_fill_35 : decode cX11_fill 35 = .ok (.aload_n 0, 1) := by decide +kernel
theorem dX11_fill_36 : decode cX11_fill 36 = .ok (.getfield 18, 3) := by decide +kernel
theorem dX11_fill_39 : decode cX11_fill 39 = .ok (.iload_n 2, 1) := by decide +kernel
theorem dX11_fill_40 : decode cX11_fill 40 = .ok (.iload_n 2, 1) := by decide +kernel
theorem dX11_fill_41 : decode cX11_fill 41 = .ok (.lload_n 3, 1) := by decide +kernel
theorem dX11_fill_42 : decode cX11_fill 42 = .ok (.invokestatic 164, 3) := by decide +kernel
theorem dX11_fill_45 : decode cX11_fill 45 = .ok (.invokevirtual 167, 3) := by decide +kernel
theorem dX11_fill_48 : decode cX11_fill 48 = .ok (.iconst 0, 1) := by decide +kernel
theorem dX11_fill_49 : decode cX11_fill 49 = .ok (.istore 6, 2) := by decide +kernel
theorem dX11_fill_51 : decode cX11_fill 51 = .ok (.iload 6, 2) := by decide +kernel
theorem dX11_fill_53 : decode cX11_fill 53 = .ok (.aload 5, 2) := by decide +kernel
theorem dX11_fill_55 : decode cX11_fill 55 = .ok (.getfield 206, 3) := by decide +kernel
theorem dX11_fill_58 : decode cX11_fill 58 = .ok (.if_icmp .ge 41, 3) := by decide +kernel
theorem dX11_fill_61 : decode cX11_fill 61 = .ok (.aload_n 0, 1) := by decide +kernel
theorem dX11_fill_62 : decode cX11_fill 62 = .ok (.aload 5, 2) := by decide +kernel
theorem dX11_fill_64 : decode cX11_fill 64 = .ok (.iload 6, 2) := by decide +kernel
theorem dX11_fill_66 : decode cX11_fill 66 = .ok (.bipush 8, 2) := by decide +kernel
theorem dX11_fill_68 : decode cX11_fill 68 = .ok (.aload_n 0, 1) := by decide +kernel
theorem dX11_fill_69 : decode cX11_fill 69 = .ok (.getfield 18, 3) := by decide +kernel
theorem dX11_fill_72 : decode cX11_fill 72 = .ok (.invokevirtual 249, 3) := by decide +kernel
theorem dX11_fill_75 : decode cX11_fill 75 = .ok (.istore 7, 2) := by decide +kernel
theorem dX11_fill_77 : decode cX11_fill 77 = .ok (.iload 7, 2) := by decide +kernel
theorem dX11_fill_79 : decode cX11_fill 79 = .ok (.iconst 1, 1) := by decide +kernel
theorem dX11_fill_80 : decode cX11_fill 80 = .ok (.if_icmp .eq 13, 3) := by decide +kernel
theorem dX11_fill_83 : decode cX11_fill 83 = .ok (.aload_n 0, 1) := by decide +kernel
theorem dX11_fill_84 : decode cX11_fill 84 = .ok (.iload 6, 2) := by decide +kernel
theorem dX11_fill_86 : decode cX11_fill 86 = .ok (.iconst 1, 1) := by decide +kernel
theorem dX11_fill_87 : decode cX11_fill 87 = .ok (.iload 7, 2) := by decide +kernel
theorem dX11_fill_89 : decode cX11_fill 89 = .ok (.invokevirtual 252, 3) := by decide +kernel
theorem dX11_fill_92 : decode cX11_fill 92 = .ok (.ireturn, 1) := by decide +kernel
theorem dX11_fill_93 : decode cX11_fill 93 = .ok (.iinc 6 1, 3) := by decide +kernel
theorem dX11_fill_96 : decode cX11_fill 96 = .ok (.goto (-45), 3) := by decide +kernel
theorem dX11_fill_99 : decode cX11_fill 99 = .ok (.aload_n 0, 1) := by decide +kernel
theorem dX11_fill_100 : decode cX11_fill 100 = .ok (.aload 5, 2) := by decide +kernel
theorem dX11_fill_102 : decode cX11_fill 102 = .ok (.getfield 206, 3) := by decide +kernel
theorem dX11_fill_105 : decode cX11_fill 105 = .ok (.invokevirtual 246, 3) := by decide +kernel
theorem dX11_fill_108 : decode cX11_fill 108 = .ok (.ireturn, 1) := by decide +kernel
theorem dX11_stop_0 : decode cX11_stop 0 = .ok (.iload_n 1, 1) := by decide +kernel
theorem dX11_stop_1 : decode cX11_stop 1 = .ok (.ifCond .lt 8, 3) := by decide +kernel
theorem dX11_stop_4 : decode cX11_stop 4 = .ok (.iload_n 1, 1) := by decide +kernel
theorem dX11_stop_5 : decode cX11_stop 5 = .ok (.iconst 2, 1) := by decide +kernel
theorem dX11_stop_6 : decode cX11_stop 6 = .ok (.if_icmp .le 5, 3) := by decide +kernel
theorem dX11_stop_9 : decode cX11_stop 9 = .ok (.iconst (-1), 1) := by decide +kernel
theorem dX11_stop_10 : decode cX11_stop 10 = .ok (.ireturn, 1) := by decide +kernel
theorem dX11_stop_11 : decode cX11_stop 11 = .ok (.aload_n 0, 1) := by decide +kernel
theorem dX11_stop_12 : decode cX11_stop 12 = .ok (.getfield 66, 3) := by decide +kernel
theorem dX11_stop_15 : decode cX11_stop 15 = .ok (.ifCond .ne 6, 3) := by decide +kernel
theorem dX11_stop_18 : decode cX11_stop 18 = .ok (.bipush (-3), 2) := by decide +kernel
theorem dX11_stop_20 : decode cX11_stop 20 = .ok (.ireturn, 1) := by decide +kernel
theorem dX11_stop_21 : decode cX11_stop 21 = .ok (.iload_n 1, 1) := by decide +kernel
theorem dX11_stop_22 : decode cX11_stop 22 = .ok (.lookupswitch 36 #[(0, 26), (1, 31)], 26) := by decide +kernel
theorem dX11_stop_48 : decode cX11_stop 48 = .ok (.aload_n 0, 1) := by decide +kernel
theorem dX11_stop_49 : decode cX11_stop 49 = .ok (.getfield 70, 3) := by decide +kernel
theorem dX11_stop_52 : decode cX11_stop 52 = .ok (.ireturn, 1) := by decide +kernel
theorem dX11_stop_53 : decode cX11_stop 53 = .ok (.aload_n 0, 1) := by decide +kernel
theorem dX11_stop_54 : decode cX11_stop 54 = .ok (.getfield 74, 3) := by decide +kernel
theorem dX11_stop_57 : decode cX11_stop 57 = .ok (.ireturn, 1) := by decide +kernel
theorem dX11_stop_58 : decode cX11_stop 58 = .ok (.aload_n 0, 1) := by decide +kernel
theorem dX11_stop_59 : decode cX11_stop 59 = .ok (.getfield 77, 3) := by decide +kernel
theorem dX11_stop_62 : decode cX11_stop 62 = .ok (.ireturn, 1) := by decide +kernel
theorem dX11_undo_0 : decode cX11_undo 0 = .ok (.aload_n 0, 1) := by decide +kernel
theorem dX11_undo_1 : decode cX11_undo 1 = .ok (.getfield 38, 3) := by decide +kernel
theorem dX11_undo_4 : decode cX11_undo 4 = .ok (.invokevirtual 256, 3) := by decide +kernel
theorem dX11_undo_7 : decode cX11_undo 7 = .ok (.ireturn, 1) := by decide +kernel
theorem dX11_redo_0 : decode cX11_redo 0 = .ok (.aload_n 0, 1) := by decide +kernel
theorem dX11_redo_1 : decode cX11_redo 1 = .ok (.getfield 38, 3) := by decide +kernel
theorem dX11_redo_4 : decode cX11_redo 4 = .ok (.invokevirtual 259, 3) := by decide +kernel
theorem dX11_redo_7 : decode cX11_redo 7 = .ok (.ireturn, 1) := by decide +kernel
theorem dX11_act_0 : decode cX11_act 0 = .ok (.aload_n 0, 1) := by decide +kernel
theorem dX11_act_1 : decode cX11_act 1 = .ok (.getfield 38, 3) := by decide +kernel
theorem dX11_act_4 : decode cX11_act 4 = .ok (.iload_n 1, 1) := by decide +kernel
theorem dX11_act_5 : decode cX11_act 5 = .ok (.invokevirtual 262, 3) := by decide +kernel
theorem dX11_act_8 : decode cX11_act 8 = .ok (.astore_n 3, 1) := by decide +kernel
theorem dX11_act_9 : decode cX11_act 9 = .ok (.aload_n 3, 1) := by decide +kernel
theorem dX11_act_10 : decode cX11_act 10 = .ok (.ifnonnull 5, 3) := by decide +kernel
theorem dX11_act_13 : decode cX11_act 13 = .ok (.iconst (-1), 1) := by decide +kernel
theorem dX11_act_14 : decode cX11_act 14 = .ok (.ireturn, 1) := by decide +kernel
theorem dX11_act_15 : decode cX11_act 15 = .ok (.iload_n 2, 1) := by decide +kernel
theorem dX11_act_16 : decode cX11_act 16 = .ok (.ifCond .ne 10, 3) := by decide +kernel
theorem dX11_act_19 : decode cX11_act 19 = .ok (.aload_n 3, 1) := by decide +kernel
theorem dX11_act_20 : decode cX11_act 20 = .ok (.invokevirtual 266, 3) := by decide +kernel
theorem dX11_act_23 : decode cX11_act 23 = .ok (.goto 11, 3) := by decide +kernel
theorem dX11_act_26 : decode cX11_act 26 = .ok (.aload_n 3, 1) := by decide +kernel
theorem dX11_act_27 : decode cX11_act 27 = .ok (.iload_n 2, 1) := by decide +kernel
theorem dX11_act_28 : decode cX11_act 28 = .ok (.bipush 10, 2) := by decide +kernel
theorem dX11_act_30 : decode cX11_act 30 = .ok (.isub, 1) := by decide +kernel
theorem dX11_act_31 : decode cX11_act 31 = .ok (.invokevirtual 269, 3) := by decide +kernel
theorem dX11_act_34 : decode cX11_act 34 = .ok (.ireturn, 1) := by decide +kernel
theorem dX11_views_0 : decode cX11_views 0 = .ok (.iload_n 1, 1) := by decide +kernel
theorem dX11_views_1 : decode cX11_views 1 = .ok (.invokestatic 80, 3) := by decide +kernel
theorem dX11_views_4 : decode cX11_views 4 = .ok (.ifCond .ne 5, 3) := by decide +kernel
theorem dX11_views_7 : decode cX11_views 7 = .ok (.iconst (-1), 1) := by decide +kernel
theorem dX11_views_8 : decode cX11_views 8 = .ok (.ireturn, 1) := by decide +kernel
theorem dX11_views_9 : decode cX11_views 9 = .ok (.aload_n 0, 1) := by decide +kernel
theorem dX11_views_10 : decode cX11_views 10 = .ok (.getfield 59, 3) := by decide +kernel
theorem dX11_views_13 : decode cX11_views 13 = .ok (.iload_n 1, 1) := by decide +kernel
theorem dX11_views_14 : decode cX11_views 14 = .ok (.invokevirtual 84, 3) := by decide +kernel
theorem dX11_views_17 : decode cX11_views 17 = .ok (.astore_n 2, 1) := by decide +kernel
theorem dX11_views_18 : decode cX11_views 18 = .ok (.aload_n 2, 1) := by decide +kernel
theorem dX11_views_19 : decode cX11_views 19 = .ok (.ifnonnull 12, 3) := by decide +kernel
theorem dX11_views_22 : decode cX11_views 22 = .ok (.aload_n 0, 1) := by decide +kernel
theorem dX11_views_23 : decode cX11_views 23 = .ok (.getfield 59, 3) := by decide +kernel
theorem dX11_views_26 : decode cX11_views 26 = .ok (.iload_n 1, 1) := by decide +kernel
theorem dX11_views_27 : decode cX11_views 27 = .ok (.invokevirtual 116, 3) := by decide +kernel
theorem dX11_views_30 : decode cX11_views 30 = .ok (.ireturn, 1) := by decide +kernel
theorem dX11_views_31 : decode cX11_views 31 = .ok (.sipush 256, 3) := by decide +kernel
theorem dX11_views_34 : decode cX11_views 34 = .ok (.istore_n 3, 1) := by decide +kernel
theorem dX11_views_35 : decode cX11_views 35 = .ok (.iconst 0, 1) := by decide +kernel
theorem dX11_views_36 : decode cX11_views 36 = .ok (.istore 4, 2) := by decide +kernel
theorem dX11_views_38 : decode cX11_views 38 = .ok (.iload 4, 2) := by decide +kernel
theorem dX11_views_40 : decode cX11_views 40 = .ok (.bipush 7, 2) := by decide +kernel
theorem dX11_views_42 : decode cX11_views 42 = .ok (.if_icmp .gt 28, 3) := by decide +kernel
theorem dX11_views_45 : decode cX11_views 45 = .ok (.aload_n 2, 1) := by decide +kernel
theorem dX11_views_46 : decode cX11_views 46 = .ok (.getfield 272, 3) := by decide +kernel
theorem dX11_views_49 : decode cX11_views 49 = .ok (.iload 4, 2) := by decide +kernel
theorem dX11_views_51 : decode cX11_views 51 = .ok (.invokestatic 273, 3) := by decide +kernel
theorem dX11_views_54 : decode cX11_views 54 = .ok (.ifCond .eq 10, 3) := by decide +kernel
theorem dX11_views_57 : decode cX11_views 57 = .ok (.iload_n 3, 1) := by decide +kernel
theorem dX11_views_58 : decode cX11_views 58 = .ok (.iconst 1, 1) := by decide +kernel
theorem dX11_views_59 : decode cX11_views 59 = .ok (.iload 4, 2) := by decide +kernel
theorem dX11_views_61 : decode cX11_views 61 = .ok (.ishl, 1) := by decide +kernel
theorem dX11_views_62 : decode cX11_views 62 = .ok (.ior, 1) := by decide +kernel
theorem dX11_views_63 : decode cX11_views 63 = .ok (.istore_n 3, 1) := by decide +kernel
theorem dX11_views_64 : decode cX11_views 64 = .ok (.iinc 4 1, 3) := by decide +kernel
theorem dX11_views_67 : decode cX11_views 67 = .ok (.goto (-29), 3) := by decide +kernel
theorem dX11_views_70 : decode cX11_views 70 = .ok (.iload_n 3, 1) := by decide +kernel
theorem dX11_views_71 : decode cX11_views 71 = .ok (.ireturn, 1) := by decide +kernel
theorem dX11_takes_0 : decode cX11_takes 0 = .ok (.iload_n 1, 1) := by decide +kernel
theorem dX11_takes_1 : decode cX11_takes 1 = .ok (.invokestatic 80, 3) := by decide +kernel
theorem dX11_takes_4 : decode cX11_takes 4 = .ok (.ifCond .eq 10, 3) := by decide +kernel
theorem dX11_takes_7 : decode cX11_takes 7 = .ok (.iload_n 2, 1) := by decide +kernel
theorem dX11_takes_8 : decode cX11_takes 8 = .ok (.invokestatic 181, 3) := by decide +kernel
theorem dX11_takes_11 : decode cX11_takes 11 = .ok (.ifCond .ne 5, 3) := by decide +kernel
theorem dX11_takes_14 : decode cX11_takes 14 = .ok (.iconst (-1), 1) := by decide +kernel
theorem dX11_takes_15 : decode cX11_takes 15 = .ok (.ireturn, 1) := by decide +kernel
theorem dX11_takes_16 : decode cX11_takes 16 = .ok (.aload_n 0, 1) := by decide +kernel
theorem dX11_takes_17 : decode cX11_takes 17 = .ok (.getfield 59, 3) := by decide +kernel
theorem dX11_takes_20 : decode cX11_takes 20 = .ok (.iload_n 1, 1) := by decide +kernel
theorem dX11_takes_21 : decode cX11_takes 21 = .ok (.invokevirtual 84, 3) := by decide +kernel
theorem dX11_takes_24 : decode cX11_takes 24 = .ok (.astore_n 3, 1) := by decide +kernel
theorem dX11_takes_25 : decode cX11_takes 25 = .ok (.aload_n 3, 1) := by decide +kernel
theorem dX11_takes_26 : decode cX11_takes 26 = .ok (.ifnonnull 12, 3) := by decide +kernel
theorem dX11_takes_29 : decode cX11_takes 29 = .ok (.aload_n 0, 1) := by decide +kernel
theorem dX11_takes_30 : decode cX11_takes 30 = .ok (.getfield 59, 3) := by decide +kernel
theorem dX11_takes_33 : decode cX11_takes 33 = .ok (.iload_n 1, 1) := by decide +kernel
theorem dX11_takes_34 : decode cX11_takes 34 = .ok (.invokevirtual 116, 3) := by decide +kernel
theorem dX11_takes_37 : decode cX11_takes 37 = .ok (.ireturn, 1) := by decide +kernel
theorem dX11_takes_38 : decode cX11_takes 38 = .ok (.aload_n 3, 1) := by decide +kernel
theorem dX11_takes_39 : decode cX11_takes 39 = .ok (.iload_n 2, 1) := by decide +kernel
theorem dX11_takes_40 : decode cX11_takes 40 = .ok (.invokevirtual 277, 3) := by decide +kernel
theorem dX11_takes_43 : decode cX11_takes 43 = .ok (.ifCond .eq 7, 3) := by decide +kernel
theorem dX11_takes_46 : decode cX11_takes 46 = .ok (.iconst 1, 1) := by decide +kernel
theorem dX11_takes_47 : decode cX11_takes 47 = .ok (.goto 4, 3) := by decide +kernel
theorem dX11_takes_50 : decode cX11_takes 50 = .ok (.iconst 0, 1) := by decide +kernel
theorem dX11_takes_51 : decode cX11_takes 51 = .ok (.ireturn, 1) := by decide +kernel
theorem dX11_exact_0 : decode cX11_exact 0 = .ok (.iload_n 1, 1) := by decide +kernel
theorem dX11_exact_1 : decode cX11_exact 1 = .ok (.invokestatic 80, 3) := by decide +kernel
theorem dX11_exact_4 : decode cX11_exact 4 = .ok (.ifCond .eq 10, 3) := by decide +kernel
theorem dX11_exact_7 : decode cX11_exact 7 = .ok (.iload_n 2, 1) := by decide +kernel
theorem dX11_exact_8 : decode cX11_exact 8 = .ok (.invokestatic 161, 3) := by decide +kernel
theorem dX11_exact_11 : decode cX11_exact 11 = .ok (.ifCond .ne 5, 3) := by decide +kernel
theorem dX11_exact_14 : decode cX11_exact 14 = .ok (.iconst (-1), 1) := by decide +kernel
theorem dX11_exact_15 : decode cX11_exact 15 = .ok (.ireturn, 1) := by decide +kernel
theorem dX11_exact_16 : decode cX11_exact 16 = .ok (.aload_n 0, 1) := by decide +kernel
theorem dX11_exact_17 : decode cX11_exact 17 = .ok (.getfield 59, 3) := by decide +kernel
theorem dX11_exact_20 : decode cX11_exact 20 = .ok (.iload_n 1, 1) := by decide +kernel
theorem dX11_exact_21 : decode cX11_exact 21 = .ok (.invokevirtual 84, 3) := by decide +kernel
theorem dX11_exact_24 : decode cX11_exact 24 = .ok (.astore_n 3, 1) := by decide +kernel
theorem dX11_exact_25 : decode cX11_exact 25 = .ok (.aload_n 3, 1) := by decide +kernel
theorem dX11_exact_26 : decode cX11_exact 26 = .ok (.ifnonnull 12, 3) := by decide +kernel
theorem dX11_exact_29 : decode cX11_exact 29 = .ok (.aload_n 0, 1) := by decide +kernel
theorem dX11_exact_30 : decode cX11_exact 30 = .ok (.getfield 59, 3) := by decide +kernel
theorem dX11_exact_33 : decode cX11_exact 33 = .ok (.iload_n 1, 1) := by decide +kernel
theorem dX11_exact_34 : decode cX11_exact 34 = .ok (.invokevirtual 116, 3) := by decide +kernel
theorem dX11_exact_37 : decode cX11_exact 37 = .ok (.ireturn, 1) := by decide +kernel
theorem dX11_exact_38 : decode cX11_exact 38 = .ok (.aload_n 3, 1) := by decide +kernel
theorem dX11_exact_39 : decode cX11_exact 39 = .ok (.getfield 272, 3) := by decide +kernel
theorem dX11_exact_42 : decode cX11_exact 42 = .ok (.iload_n 2, 1) := by decide +kernel
theorem dX11_exact_43 : decode cX11_exact 43 = .ok (.invokestatic 273, 3) := by decide +kernel
theorem dX11_exact_46 : decode cX11_exact 46 = .ok (.ifCond .ne 6, 3) := by decide +kernel
theorem dX11_exact_49 : decode cX11_exact 49 = .ok (.bipush (-12), 2) := by decide +kernel
theorem dX11_exact_51 : decode cX11_exact 51 = .ok (.ireturn, 1) := by decide +kernel
theorem dX11_exact_52 : decode cX11_exact 52 = .ok (.iconst 0, 1) := by decide +kernel
theorem dX11_exact_53 : decode cX11_exact 53 = .ok (.istore 4, 2) := by decide +kernel
theorem dX11_exact_55 : decode cX11_exact 55 = .ok (.iconst 0, 1) := by decide +kernel
theorem dX11_exact_56 : decode cX11_exact 56 = .ok (.istore 5, 2) := by decide +kernel
theorem dX11_exact_58 : decode cX11_exact 58 = .ok (.iload 5, 2) := by decide +kernel
theorem dX11_exact_60 : decode cX11_exact 60 = .ok (.aload_n 3, 1) := by decide +kernel
theorem dX11_exact_61 : decode cX11_exact 61 = .ok (.invokevirtual 119, 3) := by decide +kernel
theorem dX11_exact_64 : decode cX11_exact 64 = .ok (.if_icmp .ge 51, 3) := by decide +kernel
theorem dX11_exact_67 : decode cX11_exact 67 = .ok (.aload_n 3, 1) := by decide +kernel
theorem dX11_exact_68 : decode cX11_exact 68 = .ok (.iload 5, 2) := by decide +kernel
theorem dX11_exact_70 : decode cX11_exact 70 = .ok (.invokevirtual 280, 3) := by decide +kernel
theorem dX11_exact_73 : decode cX11_exact 73 = .ok (.lstore 6, 2) := by decide +kernel
theorem dX11_exact_75 : decode cX11_exact 75 = .ok (.aload_n 3, 1) := by decide +kernel
theorem dX11_exact_76 : decode cX11_exact 76 = .ok (.getfield 272, 3) := by decide +kernel
theorem dX11_exact_79 : decode cX11_exact 79 = .ok (.lload 6, 2) := by decide +kernel
theorem dX11_exact_81 : decode cX11_exact 81 = .ok (.iload_n 2, 1) := by decide +kernel
theorem dX11_exact_82 : decode cX11_exact 82 = .ok (.invokestatic 284, 3) := by decide +kernel
theorem dX11_exact_85 : decode cX11_exact 85 = .ok (.lstore 8, 2) := by decide +kernel
theorem dX11_exact_87 : decode cX11_exact 87 = .ok (.aload_n 3, 1) := by decide +kernel
theorem dX11_exact_88 : decode cX11_exact 88 = .ok (.getfield 272, 3) := by decide +kernel
theorem dX11_exact_91 : decode cX11_exact 91 = .ok (.lload 6, 2) := by decide +kernel
theorem dX11_exact_93 : decode cX11_exact 93 = .ok (.invokestatic 155, 3) := by decide +kernel
theorem dX11_exact_96 : decode cX11_exact 96 = .ok (.iload_n 2, 1) := by decide +kernel
theorem dX11_exact_97 : decode cX11_exact 97 = .ok (.lload 8, 2) := by decide +kernel
theorem dX11_exact_99 : decode cX11_exact 99 = .ok (.invokestatic 155, 3) := by decide +kernel
theorem dX11_exact_102 : decode cX11_exact 102 = .ok (.lcmp, 1) := by decide +kernel
theorem dX11_exact_103 : decode cX11_exact 103 = .ok (.ifCond .ne 6, 3) := by decide +kernel
theorem dX11_exact_106 : decode cX11_exact 106 = .ok (.iinc 4 1, 3) := by decide +kernel
theorem dX11_exact_109 : decode cX11_exact 109 = .ok (.iinc 5 1, 3) := by decide +kernel
theorem dX11_exact_112 : decode cX11_exact 112 = .ok (.goto (-54), 3) := by decide +kernel
theorem dX11_exact_115 : decode cX11_exact 115 = .ok (.iload 4, 2) := by decide +kernel
theorem dX11_exact_117 : decode cX11_exact 117 = .ok (.ireturn, 1) := by decide +kernel
theorem dX11_alike_0 : decode cX11_alike 0 = .ok (.iload_n 1, 1) := by decide +kernel
theorem dX11_alike_1 : decode cX11_alike 1 = .ok (.invokestatic 80, 3) := by decide +kernel
theorem dX11_alike_4 : decode cX11_alike 4 = .ok (.ifCond .eq 10, 3) := by decide +kernel
theorem dX11_alike_7 : decode cX11_alike 7 = .ok (.iload_n 2, 1) := by decide +kernel
theorem dX11_alike_8 : decode cX11_alike 8 = .ok (.invokestatic 80, 3) := by decide +kernel
theorem dX11_alike_11 : decode cX11_alike 11 = .ok (.ifCond .ne 5, 3) := by decide +kernel
theorem dX11_alike_14 : decode cX11_alike 14 = .ok (.iconst (-1), 1) := by decide +kernel
theorem dX11_alike_15 : decode cX11_alike 15 = .ok (.ireturn, 1) := by decide +kernel
theorem dX11_alike_16 : decode cX11_alike 16 = .ok (.aload_n 0, 1) := by decide +kernel
theorem dX11_alike_17 : decode cX11_alike 17 = .ok (.getfield 59, 3) := by decide +kernel
theorem dX11_alike_20 : decode cX11_alike 20 = .ok (.iload_n 1, 1) := by decide +kernel
theorem dX11_alike_21 : decode cX11_alike 21 = .ok (.invokevirtual 112, 3) := by decide +kernel
theorem dX11_alike_24 : decode cX11_alike 24 = .ok (.iconst (-1), 1) := by decide +kernel
theorem dX11_alike_25 : decode cX11_alike 25 = .ok (.if_icmp .eq 15, 3) := by decide +kernel
theorem dX11_alike_28 : decode cX11_alike 28 = .ok (.aload_n 0, 1) := by decide +kernel
theorem dX11_alike_29 : decode cX11_alike 29 = .ok (.getfield 59, 3) := by decide +kernel
theorem dX11_alike_32 : decode cX11_alike 32 = .ok (.iload_n 2, 1) := by decide +kernel
theorem dX11_alike_33 : decode cX11_alike 33 = .ok (.invokevirtual 112, 3) := by decide +kernel
theorem dX11_alike_36 : decode cX11_alike 36 = .ok (.iconst (-1), 1) := by decide +kernel
theorem dX11_alike_37 : decode cX11_alike 37 = .ok (.if_icmp .ne 6, 3) := by decide +kernel
theorem dX11_alike_40 : decode cX11_alike 40 = .ok (.bipush (-11), 2) := by decide +kernel
theorem dX11_alike_42 : decode cX11_alike 42 = .ok (.ireturn, 1) := by decide +kernel
theorem dX11_alike_43 : decode cX11_alike 43 = .ok (.aload_n 0, 1) := by decide +kernel
theorem dX11_alike_44 : decode cX11_alike 44 = .ok (.getfield 59, 3) := by decide +kernel
theorem dX11_alike_47 : decode cX11_alike 47 = .ok (.iload_n 1, 1) := by decide +kernel
theorem dX11_alike_48 : decode cX11_alike 48 = .ok (.invokevirtual 84, 3) := by decide +kernel
theorem dX11_alike_51 : decode cX11_alike 51 = .ok (.astore_n 3, 1) := by decide +kernel
theorem dX11_alike_52 : decode cX11_alike 52 = .ok (.aload_n 0, 1) := by decide +kernel
theorem dX11_alike_53 : decode cX11_alike 53 = .ok (.getfield 59, 3) := by decide +kernel
theorem dX11_alike_56 : decode cX11_alike 56 = .ok (.iload_n 2, 1) := by decide +kernel
theorem dX11_alike_57 : decode cX11_alike 57 = .ok (.invokevirtual 84, 3) := by decide +kernel
theorem dX11_alike_60 : decode cX11_alike 60 = .ok (.astore 4, 2) := by decide +kernel
theorem dX11_alike_62 : decode cX11_alike 62 = .ok (.aload_n 3, 1) := by decide +kernel
theorem dX11_alike_63 : decode cX11_alike 63 = .ok (.ifnull 8, 3) := by decide +kernel
theorem dX11_alike_66 : decode cX11_alike 66 = .ok (.aload 4, 2) := by decide +kernel
theorem dX11_alike_68 : decode cX11_alike 68 = .ok (.ifnonnull 6, 3) := by decide +kernel
theorem dX11_alike_71 : decode cX11_alike 71 = .ok (.bipush (-12), 2) := by decide +kernel
theorem dX11_alike_73 : decode cX11_alike 73 = .ok (.ireturn, 1) := by decide +kernel
theorem dX11_alike_74 : decode cX11_alike 74 = .ok (.aload_n 0, 1) := by decide +kernel
theorem dX11_alike_75 : decode cX11_alike 75 = .ok (.aload_n 3, 1) := by decide +kernel
theorem dX11_alike_76 : decode cX11_alike 76 = .ok (.aload 4, 2) := by decide +kernel
theorem dX11_alike_78 : decode cX11_alike 78 = .ok (.invokevirtual 288, 3) := by decide +kernel
theorem dX11_alike_81 : decode cX11_alike 81 = .ok (.ireturn, 1) := by decide +kernel
theorem dX11_digest_0 : decode cX11_digest 0 = .ok (.iload_n 1, 1) := by decide +kernel
theorem dX11_digest_1 : decode cX11_digest 1 = .ok (.invokestatic 80, 3) := by decide +kernel
theorem dX11_digest_4 : decode cX11_digest 4 = .ok (.ifCond .eq 9, 3) := by decide +kernel
theorem dX11_digest_7 : decode cX11_digest 7 = .ok (.aload_n 0, 1) := by decide +kernel
theorem dX11_digest_8 : decode cX11_digest 8 = .ok (.iload_n 1, 1) := by decide +kernel
theorem dX11_digest_9 : decode cX11_digest 9 = .ok (.invokevirtual 292, 3) := by decide +kernel
theorem dX11_digest_12 : decode cX11_digest 12 = .ok (.lreturn, 1) := by decide +kernel
theorem dX11_digest_13 : decode cX11_digest 13 = .ok (.iload_n 1, 1) := by decide +kernel
theorem dX11_digest_14 : decode cX11_digest 14 = .ok (.iconst (-1), 1) := by decide +kernel
theorem dX11_digest_15 : decode cX11_digest 15 = .ok (.if_icmp .eq 7, 3) := by decide +kernel
theorem dX11_digest_18 : decode cX11_digest 18 = .ok (.ldc2_w 159, 3) := by decide +kernel
theorem dX11_digest_21 : decode cX11_digest 21 = .ok (.lreturn, 1) := by decide +kernel
theorem dX11_digest_22 : decode cX11_digest 22 = .ok (.lconst 1, 1) := by decide +kernel
theorem dX11_digest_23 : decode cX11_digest 23 = .ok (.lstore_n 2, 1) := by decide +kernel
theorem dX11_digest_24 : decode cX11_digest 24 = .ok (.iconst 0, 1) := by decide +kernel
theorem dX11_digest_25 : decode cX11_digest 25 = .ok (.istore 4, 2) := by decide +kernel
theorem dX11_digest_27 : decode cX11_digest 27 = .ok (.iload 4, 2) := by decide +kernel
theorem dX11_digest_29 : decode cX11_digest 29 = .ok (.bipush 10, 2) := by decide +kernel
theorem dX11_digest_31 : decode cX11_digest 31 = .ok (.if_icmp .ge 22, 3) := by decide +kernel
theorem dX11_digest_34 : decode cX11_digest 34 = .ok (.ldc2_w 295, 3) := by decide +kernel
theorem dX11_digest_37 : decode cX11_digest 37 = .ok (.lload_n 2, 1) := by decide +kernel
theorem dX11_digest_38 : decode cX11_digest 38 = .ok (.lmul, 1) := by decide +kernel
theorem dX11_digest_39 : decode cX11_digest 39 = .ok (.aload_n 0, 1) := by decide +kernel
theorem dX11_digest_40 : decode cX11_digest 40 = .ok (.iload 4, 2) := by decide +kernel
theorem dX11_digest_42 : decode cX11_digest 42 = .ok (.invokevirtual 292, 3) := by decide +kernel
theorem dX11_digest_45 : decode cX11_digest 45 = .ok (.ladd, 1) := by decide +kernel
theorem dX11_digest_46 : decode cX11_digest 46 = .ok (.lstore_n 2, 1) := by decide +kernel
theorem dX11_digest_47 : decode cX11_digest 47 = .ok (.iinc 4 1, 3) := by decide +kernel
theorem dX11_digest_50 : decode cX11_digest 50 = .ok (.goto (-23), 3) := by decide +kernel
theorem dX11_digest_53 : decode cX11_digest 53 = .ok (.lload_n 2, 1) := by decide +kernel
theorem dX11_digest_54 : decode cX11_digest 54 = .ok (.lreturn, 1) := by decide +kernel
theorem dX11_spell_0 : decode cX11_spell 0 = .ok (.iload_n 1, 1) := by decide +kernel
theorem dX11_spell_1 : decode cX11_spell 1 = .ok (.invokestatic 80, 3) := by decide +kernel
theorem dX11_spell_4 : decode cX11_spell 4 = .ok (.ifCond .ne 5, 3) := by decide +kernel
theorem dX11_spell_7 : decode cX11_spell 7 = .ok (.iconst (-1), 1) := by decide +kernel
theorem dX11_spell_8 : decode cX11_spell 8 = .ok (.ireturn, 1) := by decide +kernel
theorem dX11_spell_9 : decode cX11_spell 9 = .ok (.aload_n 0, 1) := by decide +kernel
theorem dX11_spell_10 : decode cX11_spell 10 = .ok (.getfield 59, 3) := by decide +kernel
theorem dX11_spell_13 : decode cX11_spell 13 = .ok (.iload_n 1, 1) := by decide +kernel
theorem dX11_spell_14 : decode cX11_spell 14 = .ok (.invokevirtual 84, 3) := by decide +kernel
theorem dX11_spell_17 : decode cX11_spell 17 = .ok (.astore_n 2, 1) := by decide +kernel
theorem dX11_spell_18 : decode cX11_spell 18 = .ok (.aload_n 2, 1) := by decide +kernel
theorem dX11_spell_19 : decode cX11_spell 19 = .ok (.ifnonnull 12, 3) := by decide +kernel
theorem dX11_spell_22 : decode cX11_spell 22 = .ok (.aload_n 0, 1) := by decide +kernel
theorem dX11_spell_23 : decode cX11_spell 23 = .ok (.getfield 59, 3) := by decide +kernel
theorem dX11_spell_26 : decode cX11_spell 26 = .ok (.iload_n 1, 1) := by decide +kernel
theorem dX11_spell_27 : decode cX11_spell 27 = .ok (.invokevirtual 116, 3) := by decide +kernel
theorem dX11_spell_30 : decode cX11_spell 30 = .ok (.ireturn, 1) := by decide +kernel
theorem dX11_spell_31 : decode cX11_spell 31 = .ok (.aload_n 0, 1) := by decide +kernel
theorem dX11_spell_32 : decode cX11_spell 32 = .ok (.getfield 52, 3) := by decide +kernel
theorem dX11_spell_35 : decode cX11_spell 35 = .ok (.aload_n 2, 1) := by decide +kernel
theorem dX11_spell_36 : decode cX11_spell 36 = .ok (.invokevirtual 297, 3) := by decide +kernel
theorem dX11_spell_39 : decode cX11_spell 39 = .ok (.aload_n 0, 1) := by decide +kernel
theorem dX11_spell_40 : decode cX11_spell 40 = .ok (.getfield 52, 3) := by decide +kernel
theorem dX11_spell_43 : decode cX11_spell 43 = .ok (.getfield 299, 3) := by decide +kernel
theorem dX11_spell_46 : decode cX11_spell 46 = .ok (.ireturn, 1) := by decide +kernel
theorem dX11_paper_0 : decode cX11_paper 0 = .ok (.aload_n 0, 1) := by decide +kernel
theorem dX11_paper_1 : decode cX11_paper 1 = .ok (.getfield 52, 3) := by decide +kernel
theorem dX11_paper_4 : decode cX11_paper 4 = .ok (.iload_n 1, 1) := by decide +kernel
theorem dX11_paper_5 : decode cX11_paper 5 = .ok (.invokevirtual 302, 3) := by decide +kernel
theorem dX11_paper_8 : decode cX11_paper 8 = .ok (.ireturn, 1) := by decide +kernel
theorem dX11_feed_0 : decode cX11_feed 0 = .ok (.iload_n 1, 1) := by decide +kernel
theorem dX11_feed_1 : decode cX11_feed 1 = .ok (.iconst 1, 1) := by decide +kernel
theorem dX11_feed_2 : decode cX11_feed 2 = .ok (.if_icmp .lt 9, 3) := by decide +kernel
theorem dX11_feed_5 : decode cX11_feed 5 = .ok (.iload_n 1, 1) := by decide +kernel
theorem dX11_feed_6 : decode cX11_feed 6 = .ok (.bipush 127, 2) := by decide +kernel
theorem dX11_feed_8 : decode cX11_feed 8 = .ok (.if_icmp .le 6, 3) := by decide +kernel
theorem dX11_feed_11 : decode cX11_feed 11 = .ok (.bipush (-2), 2) := by decide +kernel

theorem dX0_init_0 : decode cX0_init 0 = .ok (.aload_n 0, 1) := by decide +kernel
theorem dX0_init_1 : decode cX0_init 1 = .ok (.invokespecial 3, 3) := by decide +kernel
theorem dX0_init_4 : decode cX0_init 4 = .ok (.aload_n 1, 1) := by decide +kernel
theorem dX0_init_5 : decode cX0_init 5 = .ok (.ifnonnull 7, 3) := by decide +kernel
theorem dX0_init_8 : decode cX0_init 8 = .ok (.iconst 0, 1) := by decide +kernel
theorem dX0_init_9 : decode cX0_init 9 = .ok (.goto 13, 3) := by decide +kernel
theorem dX0_init_12 : decode cX0_init 12 = .ok (.iconst 0, 1) := by decide +kernel
theorem dX0_init_13 : decode cX0_init 13 = .ok (.iload_n 2, 1) := by decide +kernel
theorem dX0_init_14 : decode cX0_init 14 = .ok (.aload_n 1, 1) := by decide +kernel
theorem dX0_init_15 : decode cX0_init 15 = .ok (.arraylength, 1) := by decide +kernel
theorem dX0_init_16 : decode cX0_init 16 = .ok (.invokestatic 9, 3) := by decide +kernel
theorem dX0_init_19 : decode cX0_init 19 = .ok (.invokestatic 15, 3) := by decide +kernel
theorem dX0_init_22 : decode cX0_init 22 = .ok (.istore_n 3, 1) := by decide +kernel
theorem dX0_init_23 : decode cX0_init 23 = .ok (.aload_n 0, 1) := by decide +kernel
theorem dX0_init_24 : decode cX0_init 24 = .ok (.iload_n 3, 1) := by decide +kernel
theorem dX0_init_25 : decode cX0_init 25 = .ok (.anewarray 18, 3) := by decide +kernel
theorem dX0_init_28 : decode cX0_init 28 = .ok (.putfield 20, 3) := by decide +kernel
theorem dX0_init_31 : decode cX0_init 31 = .ok (.iconst 0, 1) := by decide +kernel
theorem dX0_init_32 : decode cX0_init 32 = .ok (.istore 4, 2) := by decide +kernel
theorem dX0_init_34 : decode cX0_init 34 = .ok (.iload 4, 2) := by decide +kernel
theorem dX0_init_36 : decode cX0_init 36 = .ok (.iload_n 3, 1) := by decide +kernel
theorem dX0_init_37 : decode cX0_init 37 = .ok (.if_icmp .ge 20, 3) := by decide +kernel
theorem dX0_init_40 : decode cX0_init 40 = .ok (.aload_n 0, 1) := by decide +kernel
theorem dX0_init_41 : decode cX0_init 41 = .ok (.getfield 20, 3) := by decide +kernel
theorem dX0_init_44 : decode cX0_init 44 = .ok (.iload 4, 2) := by decide +kernel
theorem dX0_init_46 : decode cX0_init 46 = .ok (.aload_n 1, 1) := by decide +kernel
theorem dX0_init_47 : decode cX0_init 47 = .ok (.iload 4, 2) := by decide +kernel
theorem dX0_init_49 : decode cX0_init 49 = .ok (.aaload, 1) := by decide +kernel
theorem dX0_init_50 : decode cX0_init 50 = .ok (.aastore, 1) := by decide +kernel
theorem dX0_init_51 : decode cX0_init 51 = .ok (.iinc 4 1, 3) := by decide +kernel
theorem dX0_init_54 : decode cX0_init 54 = .ok (.goto (-20), 3) := by decide +kernel
theorem dX0_init_57 : decode cX0_init 57 = .ok (.return_, 1) := by decide +kernel
theorem dX0_size_0 : decode cX0_size 0 = .ok (.aload_n 0, 1) := by decide +kernel
theorem dX0_size_1 : decode cX0_size 1 = .ok (.getfield 20, 3) := by decide +kernel
theorem dX0_size_4 : decode cX0_size 4 = .ok (.arraylength, 1) := by decide +kernel
theorem dX0_size_5 : decode cX0_size 5 = .ok (.ireturn, 1) := by decide +kernel
theorem dX0_placeOf_0 : decode cX0_placeOf 0 = .ok (.iload_n 1, 1) := by decide +kernel
theorem dX0_placeOf_1 : decode cX0_placeOf 1 = .ok (.ifCond .lt 12, 3) := by decide +kernel
theorem dX0_placeOf_4 : decode cX0_placeOf 4 = .ok (.iload_n 1, 1) := by decide +kernel
theorem dX0_placeOf_5 : decode cX0_placeOf 5 = .ok (.aload_n 0, 1) := by decide +kernel
theorem dX0_placeOf_6 : decode cX0_placeOf 6 = .ok (.getfield 20, 3) := by decide +kernel
theorem dX0_placeOf_9 : decode cX0_placeOf 9 = .ok (.arraylength, 1) := by decide +kernel
theorem dX0_placeOf_10 : decode cX0_placeOf 10 = .ok (.if_icmp .lt 5, 3) := by decide +kernel
theorem dX0_placeOf_13 : decode cX0_placeOf 13 = .ok (.iconst (-1), 1) := by decide +kernel
theorem dX0_placeOf_14 : decode cX0_placeOf 14 = .ok (.ireturn, 1) := by decide +kernel
theorem dX0_placeOf_15 : decode cX0_placeOf 15 = .ok (.aload_n 0, 1) := by decide +kernel
theorem dX0_placeOf_16 : decode cX0_placeOf 16 = .ok (.getfield 20, 3) := by decide +kernel
theorem dX0_placeOf_19 : decode cX0_placeOf 19 = .ok (.iload_n 1, 1) := by decide +kernel
theorem dX0_placeOf_20 : decode cX0_placeOf 20 = .ok (.aaload, 1) := by decide +kernel
theorem dX0_placeOf_21 : decode cX0_placeOf 21 = .ok (.astore_n 2, 1) := by decide +kernel
theorem dX0_placeOf_22 : decode cX0_placeOf 22 = .ok (.aload_n 2, 1) := by decide +kernel
theorem dX0_placeOf_23 : decode cX0_placeOf 23 = .ok (.ifnonnull 7, 3) := by decide +kernel
theorem dX0_placeOf_26 : decode cX0_placeOf 26 = .ok (.iconst (-1), 1) := by decide +kernel
theorem dX0_placeOf_27 : decode cX0_placeOf 27 = .ok (.goto 7, 3) := by decide +kernel
theorem dX0_placeOf_30 : decode cX0_placeOf 30 = .ok (.aload_n 2, 1) := by decide +kernel
theorem dX0_placeOf_31 : decode cX0_placeOf 31 = .ok (.getfield 26, 3) := by decide +kernel
theorem dX0_placeOf_34 : decode cX0_placeOf 34 = .ok (.ireturn, 1) := by decide +kernel
theorem dX0_hasCellOf_0 : decode cX0_hasCellOf 0 = .ok (.iconst 0, 1) := by decide +kernel
theorem dX0_hasCellOf_1 : decode cX0_hasCellOf 1 = .ok (.istore_n 2, 1) := by decide +kernel
theorem dX0_hasCellOf_2 : decode cX0_hasCellOf 2 = .ok (.iload_n 2, 1) := by decide +kernel
theorem dX0_hasCellOf_3 : decode cX0_hasCellOf 3 = .ok (.aload_n 0, 1) := by decide +kernel
theorem dX0_hasCellOf_4 : decode cX0_hasCellOf 4 = .ok (.getfield 20, 3) := by decide +kernel
theorem dX0_hasCellOf_7 : decode cX0_hasCellOf 7 = .ok (.arraylength, 1) := by decide +kernel
theorem dX0_hasCellOf_8 : decode cX0_hasCellOf 8 = .ok (.if_icmp .ge 30, 3) := by decide +kernel
theorem dX0_hasCellOf_11 : decode cX0_hasCellOf 11 = .ok (.aload_n 0, 1) := by decide +kernel
theorem dX0_hasCellOf_12 : decode cX0_hasCellOf 12 = .ok (.getfield 20, 3) := by decide +kernel
theorem dX0_hasCellOf_15 : decode cX0_hasCellOf 15 = .ok (.iload_n 2, 1) := by decide +kernel
theorem dX0_hasCellOf_16 : decode cX0_hasCellOf 16 = .ok (.aaload, 1) := by decide +kernel
theorem dX0_hasCellOf_17 : decode cX0_hasCellOf 17 = .ok (.astore_n 3, 1) := by decide +kernel
theorem dX0_hasCellOf_18 : decode cX0_hasCellOf 18 = .ok (.aload_n 3, 1) := by decide +kernel
theorem dX0_hasCellOf_19 : decode cX0_hasCellOf 19 = .ok (.ifnull 13, 3) := by decide +kernel
theorem dX0_hasCellOf_22 : decode cX0_hasCellOf 22 = .ok (.aload_n 3, 1) := by decide +kernel
theorem dX0_hasCellOf_23 : decode cX0_hasCellOf 23 = .ok (.getfield 30, 3) := by decide +kernel
theorem dX0_hasCellOf_26 : decode cX0_hasCellOf 26 = .ok (.aload_n 1, 1) := by decide +kernel
theorem dX0_hasCellOf_27 : decode cX0_hasCellOf 27 = .ok (.if_acmp .ne 5, 3) := by decide +kernel
theorem dX0_hasCellOf_30 : decode cX0_hasCellOf 30 = .ok (.iconst 1, 1) := by decide +kernel
theorem dX0_hasCellOf_31 : decode cX0_hasCellOf 31 = .ok (.ireturn, 1) := by decide +kernel
theorem dX0_hasCellOf_32 : decode cX0_hasCellOf 32 = .ok (.iinc 2 1, 3) := by decide +kernel
theorem dX0_hasCellOf_35 : decode cX0_hasCellOf 35 = .ok (.goto (-33), 3) := by decide +kernel
theorem dX0_hasCellOf_38 : decode cX0_hasCellOf 38 = .ok (.iconst 0, 1) := by decide +kernel
theorem dX0_hasCellOf_39 : decode cX0_hasCellOf 39 = .ok (.ireturn, 1) := by decide +kernel
theorem dX0_takeBack_0 : decode cX0_takeBack 0 = .ok (.aload_n 0, 1) := by decide +kernel
theorem dX0_takeBack_1 : decode cX0_takeBack 1 = .ok (.getfield 20, 3) := by decide +kernel
theorem dX0_takeBack_4 : decode cX0_takeBack 4 = .ok (.arraylength, 1) := by decide +kernel
theorem dX0_takeBack_5 : decode cX0_takeBack 5 = .ok (.iconst 1, 1) := by decide +kernel
theorem dX0_takeBack_6 : decode cX0_takeBack 6 = .ok (.isub, 1) := by decide +kernel
theorem dX0_takeBack_7 : decode cX0_takeBack 7 = .ok (.istore_n 1, 1) := by decide +kernel
theorem dX0_takeBack_8 : decode cX0_takeBack 8 = .ok (.iload_n 1, 1) := by decide +kernel
theorem dX0_takeBack_9 : decode cX0_takeBack 9 = .ok (.ifCond .lt 24, 3) := by decide +kernel
theorem dX0_takeBack_12 : decode cX0_takeBack 12 = .ok (.aload_n 0, 1) := by decide +kernel
theorem dX0_takeBack_13 : decode cX0_takeBack 13 = .ok (.getfield 20, 3) := by decide +kernel
theorem dX0_takeBack_16 : decode cX0_takeBack 16 = .ok (.iload_n 1, 1) := by decide +kernel
theorem dX0_takeBack_17 : decode cX0_takeBack 17 = .ok (.aaload, 1) := by decide +kernel
theorem dX0_takeBack_18 : decode cX0_takeBack 18 = .ok (.astore_n 2, 1) := by decide +kernel
theorem dX0_takeBack_19 : decode cX0_takeBack 19 = .ok (.aload_n 2, 1) := by decide +kernel
theorem dX0_takeBack_20 : decode cX0_takeBack 20 = .ok (.ifnull 7, 3) := by decide +kernel
theorem dX0_takeBack_23 : decode cX0_takeBack 23 = .ok (.aload_n 2, 1) := by decide +kernel
theorem dX0_takeBack_24 : decode cX0_takeBack 24 = .ok (.invokevirtual 34, 3) := by decide +kernel
theorem dX0_takeBack_27 : decode cX0_takeBack 27 = .ok (.iinc 1 (-1), 3) := by decide +kernel
theorem dX0_takeBack_30 : decode cX0_takeBack 30 = .ok (.goto (-22), 3) := by decide +kernel
theorem dX0_takeBack_33 : decode cX0_takeBack 33 = .ok (.return_, 1) := by decide +kernel
theorem dX0_doAgain_0 : decode cX0_doAgain 0 = .ok (.iconst 0, 1) := by decide +kernel
theorem dX0_doAgain_1 : decode cX0_doAgain 1 = .ok (.istore_n 1, 1) := by decide +kernel
theorem dX0_doAgain_2 : decode cX0_doAgain 2 = .ok (.iload_n 1, 1) := by decide +kernel
theorem dX0_doAgain_3 : decode cX0_doAgain 3 = .ok (.aload_n 0, 1) := by decide +kernel
theorem dX0_doAgain_4 : decode cX0_doAgain 4 = .ok (.getfield 20, 3) := by decide +kernel
theorem dX0_doAgain_7 : decode cX0_doAgain 7 = .ok (.arraylength, 1) := by decide +kernel
theorem dX0_doAgain_8 : decode cX0_doAgain 8 = .ok (.if_icmp .ge 24, 3) := by decide +kernel
theorem dX0_doAgain_11 : decode cX0_doAgain 11 = .ok (.aload_n 0, 1) := by decide +kernel
theorem dX0_doAgain_12 : decode cX0_doAgain 12 = .ok (.getfield 20, 3) := by decide +kernel
theorem dX0_doAgain_15 : decode cX0_doAgain 15 = .ok (.iload_n 1, 1) := by decide +kernel
theorem dX0_doAgain_16 : decode cX0_doAgain 16 = .ok (.aaload, 1) := by decide +kernel
theorem dX0_doAgain_17 : decode cX0_doAgain 17 = .ok (.astore_n 2, 1) := by decide +kernel
theorem dX0_doAgain_18 : decode cX0_doAgain 18 = .ok (.aload_n 2, 1) := by decide +kernel
theorem dX0_doAgain_19 : decode cX0_doAgain 19 = .ok (.ifnull 7, 3) := by decide +kernel
theorem dX0_doAgain_22 : decode cX0_doAgain 22 = .ok (.aload_n 2, 1) := by decide +kernel
theorem dX0_doAgain_23 : decode cX0_doAgain 23 = .ok (.invokevirtual 37, 3) := by decide +kernel
theorem dX0_doAgain_26 : decode cX0_doAgain 26 = .ok (.iinc 1 1, 3) := by decide +kernel
theorem dX0_doAgain_29 : decode cX0_doAgain 29 = .ok (.goto (-27), 3) := by decide +kernel
theorem dX0_doAgain_32 : decode cX0_doAgain 32 = .ok (.return_, 1) := by decide +kernel
theorem dX0_touchAll_0 : decode cX0_touchAll 0 = .ok (.iconst 0, 1) := by decide +kernel
theorem dX0_touchAll_1 : decode cX0_touchAll 1 = .ok (.istore_n 1, 1) := by decide +kernel
theorem dX0_touchAll_2 : decode cX0_touchAll 2 = .ok (.iload_n 1, 1) := by decide +kernel
theorem dX0_touchAll_3 : decode cX0_touchAll 3 = .ok (.aload_n 0, 1) := by decide +kernel
theorem dX0_touchAll_4 : decode cX0_touchAll 4 = .ok (.getfield 20, 3) := by decide +kernel
theorem dX0_touchAll_7 : decode cX0_touchAll 7 = .ok (.arraylength, 1) := by decide +kernel
theorem dX0_touchAll_8 : decode cX0_touchAll 8 = .ok (.if_icmp .ge 38, 3) := by decide +kernel
theorem dX0_touchAll_11 : decode cX0_touchAll 11 = .ok (.aload_n 0, 1) := by decide +kernel
theorem dX0_touchAll_12 : decode cX0_touchAll 12 = .ok (.getfield 20, 3) := by decide +kernel
theorem dX0_touchAll_15 : decode cX0_touchAll 15 = .ok (.iload_n 1, 1) := by decide +kernel
theorem dX0_touchAll_16 : decode cX0_touchAll 16 = .ok (.aaload, 1) := by decide +kernel
theorem dX0_touchAll_17 : decode cX0_touchAll 17 = .ok (.astore_n 2, 1) := by decide +kernel
theorem dX0_touchAll_18 : decode cX0_touchAll 18 = .ok (.aload_n 2, 1) := by decide +kernel
theorem dX0_touchAll_19 : decode cX0_touchAll 19 = .ok (.ifnull 21, 3) := by decide +kernel
theorem dX0_touchAll_22 : decode cX0_touchAll 22 = .ok (.aload_n 2, 1) := by decide +kernel
theorem dX0_touchAll_23 : decode cX0_touchAll 23 = .ok (.getfield 30, 3) := by decide +kernel
theorem dX0_touchAll_26 : decode cX0_touchAll 26 = .ok (.ifnull 14, 3) := by decide +kernel
theorem dX0_touchAll_29 : decode cX0_touchAll 29 = .ok (.aload_n 2, 1) := by decide +kernel
theorem dX0_touchAll_30 : decode cX0_touchAll 30 = .ok (.getfield 30, 3) := by decide +kernel
theorem dX0_touchAll_33 : decode cX0_touchAll 33 = .ok (.aload_n 2, 1) := by decide +kernel
theorem dX0_touchAll_34 : decode cX0_touchAll 34 = .ok (.getfield 26, 3) := by decide +kernel
theorem dX0_touchAll_37 : decode cX0_touchAll 37 = .ok (.invokevirtual 40, 3) := by decide +kernel
theorem dX0_touchAll_40 : decode cX0_touchAll 40 = .ok (.iinc 1 1, 3) := by decide +kernel
theorem dX0_touchAll_43 : decode cX0_touchAll 43 = .ok (.goto (-41), 3) := by decide +kernel
theorem dX0_touchAll_46 : decode cX0_touchAll 46 = .ok (.return_, 1) := by decide +kernel
theorem dX1_init_0 : decode cX1_init 0 = .ok (.aload_n 0, 1) := by decide +kernel
theorem dX1_init_1 : decode cX1_init 1 = .ok (.invokespecial 3, 3) := by decide +kernel
theorem dX1_init_4 : decode cX1_init 4 = .ok (.aload_n 0, 1) := by decide +kernel
theorem dX1_init_5 : decode cX1_init 5 = .ok (.bipush 10, 2) := by decide +kernel
theorem dX1_init_7 : decode cX1_init 7 = .ok (.anewarray 9, 3) := by decide +kernel
theorem dX1_init_10 : decode cX1_init 10 = .ok (.putfield 11, 3) := by decide +kernel
theorem dX1_init_13 : decode cX1_init 13 = .ok (.aload_n 0, 1) := by decide +kernel
theorem dX1_init_14 : decode cX1_init 14 = .ok (.bipush 10, 2) := by decide +kernel
theorem dX1_init_16 : decode cX1_init 16 = .ok (.newarray .int, 2) := by decide +kernel
theorem dX1_init_18 : decode cX1_init 18 = .ok (.putfield 17, 3) := by decide +kernel
theorem dX1_init_21 : decode cX1_init 21 = .ok (.aload_n 0, 1) := by decide +kernel
theorem dX1_init_22 : decode cX1_init 22 = .ok (.bipush 10, 2) := by decide +kernel
theorem dX1_init_24 : decode cX1_init 24 = .ok (.newarray .int, 2) := by decide +kernel
theorem dX1_init_26 : decode cX1_init 26 = .ok (.putfield 21, 3) := by decide +kernel
theorem dX1_init_29 : decode cX1_init 29 = .ok (.aload_n 0, 1) := by decide +kernel
theorem dX1_init_30 : decode cX1_init 30 = .ok (.bipush 6, 2) := by decide +kernel
theorem dX1_init_32 : decode cX1_init 32 = .ok (.anewarray 24, 3) := by decide +kernel
theorem dX1_init_35 : decode cX1_init 35 = .ok (.putfield 26, 3) := by decide +kernel
theorem dX1_init_38 : decode cX1_init 38 = .ok (.iconst 0, 1) := by decide +kernel
theorem dX1_init_39 : decode cX1_init 39 = .ok (.istore_n 1, 1) := by decide +kernel
theorem dX1_init_40 : decode cX1_init 40 = .ok (.iload_n 1, 1) := by decide +kernel
theorem dX1_init_41 : decode cX1_init 41 = .ok (.aload_n 0, 1) := by decide +kernel
theorem dX1_init_42 : decode cX1_init 42 = .ok (.getfield 17, 3) := by decide +kernel
theorem dX1_init_45 : decode cX1_init 45 = .ok (.arraylength, 1) := by decide +kernel
theorem dX1_init_46 : decode cX1_init 46 = .ok (.if_icmp .ge 16, 3) := by decide +kernel
theorem dX1_init_49 : decode cX1_init 49 = .ok (.aload_n 0, 1) := by decide +kernel
theorem dX1_init_50 : decode cX1_init 50 = .ok (.getfield 17, 3) := by decide +kernel
theorem dX1_init_53 : decode cX1_init 53 = .ok (.iload_n 1, 1) := by decide +kernel
theorem dX1_init_54 : decode cX1_init 54 = .ok (.iconst (-1), 1) := by decide +kernel
theorem dX1_init_55 : decode cX1_init 55 = .ok (.iastore, 1) := by decide +kernel
theorem dX1_init_56 : decode cX1_init 56 = .ok (.iinc 1 1, 3) := by decide +kernel
theorem dX1_init_59 : decode cX1_init 59 = .ok (.goto (-19), 3) := by decide +kernel
theorem dX1_init_62 : decode cX1_init 62 = .ok (.iconst 0, 1) := by decide +kernel
theorem dX1_init_63 : decode cX1_init 63 = .ok (.istore_n 1, 1) := by decide +kernel
theorem dX1_init_64 : decode cX1_init 64 = .ok (.iload_n 1, 1) := by decide +kernel
theorem dX1_init_65 : decode cX1_init 65 = .ok (.aload_n 0, 1) := by decide +kernel
theorem dX1_init_66 : decode cX1_init 66 = .ok (.getfield 26, 3) := by decide +kernel
theorem dX1_init_69 : decode cX1_init 69 = .ok (.arraylength, 1) := by decide +kernel
theorem dX1_init_70 : decode cX1_init 70 = .ok (.if_icmp .ge 22, 3) := by decide +kernel
theorem dX1_init_73 : decode cX1_init 73 = .ok (.aload_n 0, 1) := by decide +kernel
theorem dX1_init_74 : decode cX1_init 74 = .ok (.getfield 26, 3) := by decide +kernel
theorem dX1_init_77 : decode cX1_init 77 = .ok (.iload_n 1, 1) := by decide +kernel
theorem dX1_init_78 : decode cX1_init 78 = .ok (.new 24, 3) := by decide +kernel
theorem dX1_init_81 : decode cX1_init 81 = .ok (.dup, 1) := by decide +kernel
theorem dX1_init_82 : decode cX1_init 82 = .ok (.invokespecial 30, 3) := by decide +kernel
theorem dX1_init_85 : decode cX1_init 85 = .ok (.aastore, 1) := by decide +kernel
theorem dX1_init_86 : decode cX1_init 86 = .ok (.iinc 1 1, 3) := by decide +kernel
theorem dX1_init_89 : decode cX1_init 89 = .ok (.goto (-25), 3) := by decide +kernel
theorem dX1_init_92 : decode cX1_init 92 = .ok (.return_, 1) := by decide +kernel
theorem dX1_isPlace_0 : decode cX1_isPlace 0 = .ok (.iload_n 0, 1) := by decide +kernel
theorem dX1_isPlace_1 : decode cX1_isPlace 1 = .ok (.ifCond .lt 13, 3) := by decide +kernel
theorem dX1_isPlace_4 : decode cX1_isPlace 4 = .ok (.iload_n 0, 1) := by decide +kernel
theorem dX1_isPlace_5 : decode cX1_isPlace 5 = .ok (.bipush 10, 2) := by decide +kernel
theorem dX1_isPlace_7 : decode cX1_isPlace 7 = .ok (.if_icmp .ge 7, 3) := by decide +kernel
theorem dX1_isPlace_10 : decode cX1_isPlace 10 = .ok (.iconst 1, 1) := by decide +kernel
theorem dX1_isPlace_11 : decode cX1_isPlace 11 = .ok (.goto 4, 3) := by decide +kernel
theorem dX1_isPlace_14 : decode cX1_isPlace 14 = .ok (.iconst 0, 1) := by decide +kernel
theorem dX1_isPlace_15 : decode cX1_isPlace 15 = .ok (.ireturn, 1) := by decide +kernel
theorem dX1_rowAt_0 : decode cX1_rowAt 0 = .ok (.iload_n 1, 1) := by decide +kernel
theorem dX1_rowAt_1 : decode cX1_rowAt 1 = .ok (.invokestatic 31, 3) := by decide +kernel
theorem dX1_rowAt_4 : decode cX1_rowAt 4 = .ok (.ifCond .eq 12, 3) := by decide +kernel
theorem dX1_rowAt_7 : decode cX1_rowAt 7 = .ok (.aload_n 0, 1) := by decide +kernel
theorem dX1_rowAt_8 : decode cX1_rowAt 8 = .ok (.getfield 11, 3) := by decide +kernel
theorem dX1_rowAt_11 : decode cX1_rowAt 11 = .ok (.iload_n 1, 1) := by decide +kernel
theorem dX1_rowAt_12 : decode cX1_rowAt 12 = .ok (.aaload, 1) := by decide +kernel
theorem dX1_rowAt_13 : decode cX1_rowAt 13 = .ok (.goto 4, 3) := by decide +kernel
theorem dX1_rowAt_16 : decode cX1_rowAt 16 = .ok (.aconst_null, 1) := by decide +kernel
theorem dX1_rowAt_17 : decode cX1_rowAt 17 = .ok (.areturn, 1) := by decide +kernel
theorem dX1_heldBy_0 : decode cX1_heldBy 0 = .ok (.iload_n 1, 1) := by decide +kernel
theorem dX1_heldBy_1 : decode cX1_heldBy 1 = .ok (.invokestatic 31, 3) := by decide +kernel
theorem dX1_heldBy_4 : decode cX1_heldBy 4 = .ok (.ifCond .eq 12, 3) := by decide +kernel
theorem dX1_heldBy_7 : decode cX1_heldBy 7 = .ok (.aload_n 0, 1) := by decide +kernel
theorem dX1_heldBy_8 : decode cX1_heldBy 8 = .ok (.getfield 17, 3) := by decide +kernel
theorem dX1_heldBy_11 : decode cX1_heldBy 11 = .ok (.iload_n 1, 1) := by decide +kernel
theorem dX1_heldBy_12 : decode cX1_heldBy 12 = .ok (.iaload, 1) := by decide +kernel
theorem dX1_heldBy_13 : decode cX1_heldBy 13 = .ok (.goto 4, 3) := by decide +kernel
theorem dX1_heldBy_16 : decode cX1_heldBy 16 = .ok (.iconst (-1), 1) := by decide +kernel
theorem dX1_heldBy_17 : decode cX1_heldBy 17 = .ok (.ireturn, 1) := by decide +kernel
theorem dX1_whyNoRow_0 : decode cX1_whyNoRow 0 = .ok (.iload_n 1, 1) := by decide +kernel
theorem dX1_whyNoRow_1 : decode cX1_whyNoRow 1 = .ok (.invokestatic 31, 3) := by decide +kernel
theorem dX1_whyNoRow_4 : decode cX1_whyNoRow 4 = .ok (.ifCond .eq 18, 3) := by decide +kernel
theorem dX1_whyNoRow_7 : decode cX1_whyNoRow 7 = .ok (.aload_n 0, 1) := by decide +kernel
theorem dX1_whyNoRow_8 : decode cX1_whyNoRow 8 = .ok (.getfield 17, 3) := by decide +kernel
theorem dX1_whyNoRow_11 : decode cX1_whyNoRow 11 = .ok (.iload_n 1, 1) := by decide +kernel
theorem dX1_whyNoRow_12 : decode cX1_whyNoRow 12 = .ok (.iaload, 1) := by decide +kernel
theorem dX1_whyNoRow_13 : decode cX1_whyNoRow 13 = .ok (.iconst (-1), 1) := by decide +kernel
theorem dX1_whyNoRow_14 : decode cX1_whyNoRow 14 = .ok (.if_icmp .eq 8, 3) := by decide +kernel
theorem dX1_whyNoRow_17 : decode cX1_whyNoRow 17 = .ok (.bipush (-12), 2) := by decide +kernel
theorem dX1_whyNoRow_19 : decode cX1_whyNoRow 19 = .ok (.goto 5, 3) := by decide +kernel
theorem dX1_whyNoRow_22 : decode cX1_whyNoRow 22 = .ok (.bipush (-11), 2) := by decide +kernel
theorem dX1_whyNoRow_24 : decode cX1_whyNoRow 24 = .ok (.ireturn, 1) := by decide +kernel
theorem dX1_numberAt_0 : decode cX1_numberAt 0 = .ok (.iload_n 1, 1) := by decide +kernel
theorem dX1_numberAt_1 : decode cX1_numberAt 1 = .ok (.invokestatic 31, 3) := by decide +kernel
theorem dX1_numberAt_4 : decode cX1_numberAt 4 = .ok (.ifCond .eq 12, 3) := by decide +kernel
theorem dX1_numberAt_7 : decode cX1_numberAt 7 = .ok (.aload_n 0, 1) := by decide +kernel
theorem dX1_numberAt_8 : decode cX1_numberAt 8 = .ok (.getfield 21, 3) := by decide +kernel
theorem dX1_numberAt_11 : decode cX1_numberAt 11 = .ok (.iload_n 1, 1) := by decide +kernel
theorem dX1_numberAt_12 : decode cX1_numberAt 12 = .ok (.iaload, 1) := by decide +kernel
theorem dX1_numberAt_13 : decode cX1_numberAt 13 = .ok (.goto 4, 3) := by decide +kernel
theorem dX1_numberAt_16 : decode cX1_numberAt 16 = .ok (.iconst 0, 1) := by decide +kernel
theorem dX1_numberAt_17 : decode cX1_numberAt 17 = .ok (.ireturn, 1) := by decide +kernel
theorem dX1_windowAt_0 : decode cX1_windowAt 0 = .ok (.iload_n 1, 1) := by decide +kernel
theorem dX1_windowAt_1 : decode cX1_windowAt 1 = .ok (.ifCond .lt 21, 3) := by decide +kernel
theorem dX1_windowAt_4 : decode cX1_windowAt 4 = .ok (.iload_n 1, 1) := by decide +kernel
theorem dX1_windowAt_5 : decode cX1_windowAt 5 = .ok (.aload_n 0, 1) := by decide +kernel
theorem dX1_windowAt_6 : decode cX1_windowAt 6 = .ok (.getfield 26, 3) := by decide +kernel
theorem dX1_windowAt_9 : decode cX1_windowAt 9 = .ok (.arraylength, 1) := by decide +kernel
theorem dX1_windowAt_10 : decode cX1_windowAt 10 = .ok (.if_icmp .ge 12, 3) := by decide +kernel
theorem dX1_windowAt_13 : decode cX1_windowAt 13 = .ok (.aload_n 0, 1) := by decide +kernel
theorem dX1_windowAt_14 : decode cX1_windowAt 14 = .ok (.getfield 26, 3) := by decide +kernel
theorem dX1_windowAt_17 : decode cX1_windowAt 17 = .ok (.iload_n 1, 1) := by decide +kernel
theorem dX1_windowAt_18 : decode cX1_windowAt 18 = .ok (.aaload, 1) := by decide +kernel
theorem dX1_windowAt_19 : decode cX1_windowAt 19 = .ok (.goto 4, 3) := by decide +kernel
theorem dX1_windowAt_22 : decode cX1_windowAt 22 = .ok (.aconst_null, 1) := by decide +kernel
theorem dX1_windowAt_23 : decode cX1_windowAt 23 = .ok (.areturn, 1) := by decide +kernel
theorem dX1_holdRow_0 : decode cX1_holdRow 0 = .ok (.iload_n 1, 1) := by decide +kernel
theorem dX1_holdRow_1 : decode cX1_holdRow 1 = .ok (.invokestatic 31, 3) := by decide +kernel
theorem dX1_holdRow_4 : decode cX1_holdRow 4 = .ok (.ifCond .eq 31, 3) := by decide +kernel
theorem dX1_holdRow_7 : decode cX1_holdRow 7 = .ok (.aload_n 2, 1) := by decide +kernel
theorem dX1_holdRow_8 : decode cX1_holdRow 8 = .ok (.ifnull 27, 3) := by decide +kernel
theorem dX1_holdRow_11 : decode cX1_holdRow 11 = .ok (.aload_n 0, 1) := by decide +kernel
theorem dX1_holdRow_12 : decode cX1_holdRow 12 = .ok (.getfield 11, 3) := by decide +kernel
theorem dX1_holdRow_15 : decode cX1_holdRow 15 = .ok (.iload_n 1, 1) := by decide +kernel
theorem dX1_holdRow_16 : decode cX1_holdRow 16 = .ok (.aload_n 2, 1) := by decide +kernel
theorem dX1_holdRow_17 : decode cX1_holdRow 17 = .ok (.aastore, 1) := by decide +kernel
theorem dX1_holdRow_18 : decode cX1_holdRow 18 = .ok (.aload_n 0, 1) := by decide +kernel
theorem dX1_holdRow_19 : decode cX1_holdRow 19 = .ok (.getfield 17, 3) := by decide +kernel
theorem dX1_holdRow_22 : decode cX1_holdRow 22 = .ok (.iload_n 1, 1) := by decide +kernel
theorem dX1_holdRow_23 : decode cX1_holdRow 23 = .ok (.aload_n 2, 1) := by decide +kernel
theorem dX1_holdRow_24 : decode cX1_holdRow 24 = .ok (.getfield 35, 3) := by decide +kernel
theorem dX1_holdRow_27 : decode cX1_holdRow 27 = .ok (.iastore, 1) := by decide +kernel
theorem dX1_holdRow_28 : decode cX1_holdRow 28 = .ok (.aload_n 0, 1) := by decide +kernel
theorem dX1_holdRow_29 : decode cX1_holdRow 29 = .ok (.getfield 21, 3) := by decide +kernel
theorem dX1_holdRow_32 : decode cX1_holdRow 32 = .ok (.iload_n 1, 1) := by decide +kernel
theorem dX1_holdRow_33 : decode cX1_holdRow 33 = .ok (.iconst 0, 1) := by decide +kernel
theorem dX1_holdRow_34 : decode cX1_holdRow 34 = .ok (.iastore, 1) := by decide +kernel
theorem dX1_holdRow_35 : decode cX1_holdRow 35 = .ok (.return_, 1) := by decide +kernel
theorem dX1_holdThing_0 : decode cX1_holdThing 0 = .ok (.iload_n 1, 1) := by decide +kernel
theorem dX1_holdThing_1 : decode cX1_holdThing 1 = .ok (.invokestatic 31, 3) := by decide +kernel
theorem dX1_holdThing_4 : decode cX1_holdThing 4 = .ok (.ifCond .eq 24, 3) := by decide +kernel
theorem dX1_holdThing_7 : decode cX1_holdThing 7 = .ok (.aload_n 0, 1) := by decide +kernel
theorem dX1_holdThing_8 : decode cX1_holdThing 8 = .ok (.getfield 11, 3) := by decide +kernel
theorem dX1_holdThing_11 : decode cX1_holdThing 11 = .ok (.iload_n 1, 1) := by decide +kernel
theorem dX1_holdThing_12 : decode cX1_holdThing 12 = .ok (.aconst_null, 1) := by decide +kernel
theorem dX1_holdThing_13 : decode cX1_holdThing 13 = .ok (.aastore, 1) := by decide +kernel
theorem dX1_holdThing_14 : decode cX1_holdThing 14 = .ok (.aload_n 0, 1) := by decide +kernel
theorem dX1_holdThing_15 : decode cX1_holdThing 15 = .ok (.getfield 17, 3) := by decide +kernel
theorem dX1_holdThing_18 : decode cX1_holdThing 18 = .ok (.iload_n 1, 1) := by decide +kernel
theorem dX1_holdThing_19 : decode cX1_holdThing 19 = .ok (.iload_n 2, 1) := by decide +kernel
theorem dX1_holdThing_20 : decode cX1_holdThing 20 = .ok (.iastore, 1) := by decide +kernel
theorem dX1_holdThing_21 : decode cX1_holdThing 21 = .ok (.aload_n 0, 1) := by decide +kernel
theorem dX1_holdThing_22 : decode cX1_holdThing 22 = .ok (.getfield 21, 3) := by decide +kernel
theorem dX1_holdThing_25 : decode cX1_holdThing 25 = .ok (.iload_n 1, 1) := by decide +kernel
theorem dX1_holdThing_26 : decode cX1_holdThing 26 = .ok (.iload_n 3, 1) := by decide +kernel
theorem dX1_holdThing_27 : decode cX1_holdThing 27 = .ok (.iastore, 1) := by decide +kernel
theorem dX1_holdThing_28 : decode cX1_holdThing 28 = .ok (.return_, 1) := by decide +kernel
theorem dX1_holdWhatIsIn_0 : decode cX1_holdWhatIsIn 0 = .ok (.iload_n 1, 1) := by decide +kernel
theorem dX1_holdWhatIsIn_1 : decode cX1_holdWhatIsIn 1 = .ok (.invokestatic 31, 3) := by decide +kernel
theorem dX1_holdWhatIsIn_4 : decode cX1_holdWhatIsIn 4 = .ok (.ifCond .eq 46, 3) := by decide +kernel
theorem dX1_holdWhatIsIn_7 : decode cX1_holdWhatIsIn 7 = .ok (.iload_n 2, 1) := by decide +kernel
theorem dX1_holdWhatIsIn_8 : decode cX1_holdWhatIsIn 8 = .ok (.invokestatic 31, 3) := by decide +kernel
theorem dX1_holdWhatIsIn_11 : decode cX1_holdWhatIsIn 11 = .ok (.ifCond .eq 39, 3) := by decide +kernel
theorem dX1_holdWhatIsIn_14 : decode cX1_holdWhatIsIn 14 = .ok (.aload_n 0, 1) := by decide +kernel
theorem dX1_holdWhatIsIn_15 : decode cX1_holdWhatIsIn 15 = .ok (.getfield 11, 3) := by decide +kernel
theorem dX1_holdWhatIsIn_18 : decode cX1_holdWhatIsIn 18 = .ok (.iload_n 1, 1) := by decide +kernel
theorem dX1_holdWhatIsIn_19 : decode cX1_holdWhatIsIn 19 = .ok (.aload_n 0, 1) := by decide +kernel
theorem dX1_holdWhatIsIn_20 : decode cX1_holdWhatIsIn 20 = .ok (.getfield 11, 3) := by decide +kernel
theorem dX1_holdWhatIsIn_23 : decode cX1_holdWhatIsIn 23 = .ok (.iload_n 2, 1) := by decide +kernel
theorem dX1_holdWhatIsIn_24 : decode cX1_holdWhatIsIn 24 = .ok (.aaload, 1) := by decide +kernel
theorem dX1_holdWhatIsIn_25 : decode cX1_holdWhatIsIn 25 = .ok (.aastore, 1) := by decide +kernel
theorem dX1_holdWhatIsIn_26 : decode cX1_holdWhatIsIn 26 = .ok (.aload_n 0, 1) := by decide +kernel
theorem dX1_holdWhatIsIn_27 : decode cX1_holdWhatIsIn 27 = .ok (.getfield 17, 3) := by decide +kernel
theorem dX1_holdWhatIsIn_30 : decode cX1_holdWhatIsIn 30 = .ok (.iload_n 1, 1) := by decide +kernel
theorem dX1_holdWhatIsIn_31 : decode cX1_holdWhatIsIn 31 = .ok (.aload_n 0, 1) := by decide +kernel
theorem dX1_holdWhatIsIn_32 : decode cX1_holdWhatIsIn 32 = .ok (.getfield 17, 3) := by decide +kernel
theorem dX1_holdWhatIsIn_35 : decode cX1_holdWhatIsIn 35 = .ok (.iload_n 2, 1) := by decide +kernel
theorem dX1_holdWhatIsIn_36 : decode cX1_holdWhatIsIn 36 = .ok (.iaload, 1) := by decide +kernel
theorem dX1_holdWhatIsIn_37 : decode cX1_holdWhatIsIn 37 = .ok (.iastore, 1) := by decide +kernel
theorem dX1_holdWhatIsIn_38 : decode cX1_holdWhatIsIn 38 = .ok (.aload_n 0, 1) := by decide +kernel
theorem dX1_holdWhatIsIn_39 : decode cX1_holdWhatIsIn 39 = .ok (.getfield 21, 3) := by decide +kernel
theorem dX1_holdWhatIsIn_42 : decode cX1_holdWhatIsIn 42 = .ok (.iload_n 1, 1) := by decide +kernel
theorem dX1_holdWhatIsIn_43 : decode cX1_holdWhatIsIn 43 = .ok (.aload_n 0, 1) := by decide +kernel
theorem dX1_holdWhatIsIn_44 : decode cX1_holdWhatIsIn 44 = .ok (.getfield 21, 3) := by decide +kernel
theorem dX1_holdWhatIsIn_47 : decode cX1_holdWhatIsIn 47 = .ok (.iload_n 2, 1) := by decide +kernel
theorem dX1_holdWhatIsIn_48 : decode cX1_holdWhatIsIn 48 = .ok (.iaload, 1) := by decide +kernel
theorem dX1_holdWhatIsIn_49 : decode cX1_holdWhatIsIn 49 = .ok (.iastore, 1) := by decide +kernel
theorem dX1_holdWhatIsIn_50 : decode cX1_holdWhatIsIn 50 = .ok (.return_, 1) := by decide +kernel
theorem dX1_holdersOf_0 : decode cX1_holdersOf 0 = .ok (.iconst 0, 1) := by decide +kernel
theorem dX1_holdersOf_1 : decode cX1_holdersOf 1 = .ok (.istore_n 2, 1) := by decide +kernel
theorem dX1_holdersOf_2 : decode cX1_holdersOf 2 = .ok (.iconst 0, 1) := by decide +kernel
theorem dX1_holdersOf_3 : decode cX1_holdersOf 3 = .ok (.istore_n 3, 1) := by decide +kernel
theorem dX1_holdersOf_4 : decode cX1_holdersOf 4 = .ok (.iload_n 3, 1) := by decide +kernel
theorem dX1_holdersOf_5 : decode cX1_holdersOf 5 = .ok (.aload_n 0, 1) := by decide +kernel
theorem dX1_holdersOf_6 : decode cX1_holdersOf 6 = .ok (.getfield 11, 3) := by decide +kernel
theorem dX1_holdersOf_9 : decode cX1_holdersOf 9 = .ok (.arraylength, 1) := by decide +kernel
theorem dX1_holdersOf_10 : decode cX1_holdersOf 10 = .ok (.if_icmp .ge 22, 3) := by decide +kernel
theorem dX1_holdersOf_13 : decode cX1_holdersOf 13 = .ok (.aload_n 0, 1) := by decide +kernel
theorem dX1_holdersOf_14 : decode cX1_holdersOf 14 = .ok (.getfield 11, 3) := by decide +kernel
theorem dX1_holdersOf_17 : decode cX1_holdersOf 17 = .ok (.iload_n 3, 1) := by decide +kernel
theorem dX1_holdersOf_18 : decode cX1_holdersOf 18 = .ok (.aaload, 1) := by decide +kernel
theorem dX1_holdersOf_19 : decode cX1_holdersOf 19 = .ok (.aload_n 1, 1) := by decide +kernel
theorem dX1_holdersOf_20 : decode cX1_holdersOf 20 = .ok (.if_acmp .ne 6, 3) := by decide +kernel
theorem dX1_holdersOf_23 : decode cX1_holdersOf 23 = .ok (.iinc 2 1, 3) := by decide +kernel
theorem dX1_holdersOf_26 : decode cX1_holdersOf 26 = .ok (.iinc 3 1, 3) := by decide +kernel
theorem dX1_holdersOf_29 : decode cX1_holdersOf 29 = .ok (.goto (-25), 3) := by decide +kernel
theorem dX1_holdersOf_32 : decode cX1_holdersOf 32 = .ok (.iload_n 2, 1) := by decide +kernel
theorem dX1_holdersOf_33 : decode cX1_holdersOf 33 = .ok (.ireturn, 1) := by decide +kernel
theorem dX1_firstHolder_0 : decode cX1_firstHolder 0 = .ok (.aload_n 0, 1) := by decide +kernel
theorem dX1_firstHolder_1 : decode cX1_firstHolder 1 = .ok (.iload_n 1, 1) := by decide +kernel
theorem dX1_firstHolder_2 : decode cX1_firstHolder 2 = .ok (.invokevirtual 39, 3) := by decide +kernel
theorem dX1_firstHolder_5 : decode cX1_firstHolder 5 = .ok (.astore_n 2, 1) := by decide +kernel
theorem dX1_firstHolder_6 : decode cX1_firstHolder 6 = .ok (.iconst 0, 1) := by decide +kernel
theorem dX1_firstHolder_7 : decode cX1_firstHolder 7 = .ok (.istore_n 3, 1) := by decide +kernel
theorem dX1_firstHolder_8 : decode cX1_firstHolder 8 = .ok (.iload_n 3, 1) := by decide +kernel
theorem dX1_firstHolder_9 : decode cX1_firstHolder 9 = .ok (.iload_n 1, 1) := by decide +kernel
theorem dX1_firstHolder_10 : decode cX1_firstHolder 10 = .ok (.if_icmp .ge 30, 3) := by decide +kernel
theorem dX1_firstHolder_13 : decode cX1_firstHolder 13 = .ok (.iload_n 3, 1) := by decide +kernel
theorem dX1_firstHolder_14 : decode cX1_firstHolder 14 = .ok (.aload_n 0, 1) := by decide +kernel
theorem dX1_firstHolder_15 : decode cX1_firstHolder 15 = .ok (.getfield 11, 3) := by decide +kernel
theorem dX1_firstHolder_18 : decode cX1_firstHolder 18 = .ok (.arraylength, 1) := by decide +kernel
theorem dX1_firstHolder_19 : decode cX1_firstHolder 19 = .ok (.if_icmp .ge 21, 3) := by decide +kernel
theorem dX1_firstHolder_22 : decode cX1_firstHolder 22 = .ok (.aload_n 0, 1) := by decide +kernel
theorem dX1_firstHolder_23 : decode cX1_firstHolder 23 = .ok (.getfield 11, 3) := by decide +kernel
theorem dX1_firstHolder_26 : decode cX1_firstHolder 26 = .ok (.iload_n 3, 1) := by decide +kernel
theorem dX1_firstHolder_27 : decode cX1_firstHolder 27 = .ok (.aaload, 1) := by decide +kernel
theorem dX1_firstHolder_28 : decode cX1_firstHolder 28 = .ok (.aload_n 2, 1) := by decide +kernel
theorem dX1_firstHolder_29 : decode cX1_firstHolder 29 = .ok (.if_acmp .ne 5, 3) := by decide +kernel
theorem dX1_firstHolder_32 : decode cX1_firstHolder 32 = .ok (.iload_n 3, 1) := by decide +kernel
theorem dX1_firstHolder_33 : decode cX1_firstHolder 33 = .ok (.ireturn, 1) := by decide +kernel
theorem dX1_firstHolder_34 : decode cX1_firstHolder 34 = .ok (.iinc 3 1, 3) := by decide +kernel
theorem dX1_firstHolder_37 : decode cX1_firstHolder 37 = .ok (.goto (-29), 3) := by decide +kernel
theorem dX1_firstHolder_40 : decode cX1_firstHolder 40 = .ok (.iload_n 1, 1) := by decide +kernel
theorem dX1_firstHolder_41 : decode cX1_firstHolder 41 = .ok (.ireturn, 1) := by decide +kernel
theorem dX1_rowFirstHeldAt_0 : decode cX1_rowFirstHeldAt 0 = .ok (.aload_n 0, 1) := by decide +kernel
theorem dX1_rowFirstHeldAt_1 : decode cX1_rowFirstHeldAt 1 = .ok (.iload_n 1, 1) := by decide +kernel
theorem dX1_rowFirstHeldAt_2 : decode cX1_rowFirstHeldAt 2 = .ok (.invokevirtual 43, 3) := by decide +kernel
theorem dX1_rowFirstHeldAt_5 : decode cX1_rowFirstHeldAt 5 = .ok (.iload_n 1, 1) := by decide +kernel
theorem dX1_rowFirstHeldAt_6 : decode cX1_rowFirstHeldAt 6 = .ok (.if_icmp .ne 11, 3) := by decide +kernel
theorem dX1_rowFirstHeldAt_9 : decode cX1_rowFirstHeldAt 9 = .ok (.aload_n 0, 1) := by decide +kernel
theorem dX1_rowFirstHeldAt_10 : decode cX1_rowFirstHeldAt 10 = .ok (.iload_n 1, 1) := by decide +kernel
theorem dX1_rowFirstHeldAt_11 : decode cX1_rowFirstHeldAt 11 = .ok (.invokevirtual 39, 3) := by decide +kernel
theorem dX1_rowFirstHeldAt_14 : decode cX1_rowFirstHeldAt 14 = .ok (.goto 4, 3) := by decide +kernel
theorem dX1_rowFirstHeldAt_17 : decode cX1_rowFirstHeldAt 17 = .ok (.aconst_null, 1) := by decide +kernel
theorem dX1_rowFirstHeldAt_18 : decode cX1_rowFirstHeldAt 18 = .ok (.areturn, 1) := by decide +kernel
theorem dX1_slotsWithRows_0 : decode cX1_slotsWithRows 0 = .ok (.iconst 0, 1) := by decide +kernel
theorem dX1_slotsWithRows_1 : decode cX1_slotsWithRows 1 = .ok (.istore_n 1, 1) := by decide +kernel
theorem dX1_slotsWithRows_2 : decode cX1_slotsWithRows 2 = .ok (.iconst 0, 1) := by decide +kernel
theorem dX1_slotsWithRows_3 : decode cX1_slotsWithRows 3 = .ok (.istore_n 2, 1) := by decide +kernel
theorem dX1_slotsWithRows_4 : decode cX1_slotsWithRows 4 = .ok (.iload_n 2, 1) := by decide +kernel
theorem dX1_slotsWithRows_5 : decode cX1_slotsWithRows 5 = .ok (.aload_n 0, 1) := by decide +kernel
theorem dX1_slotsWithRows_6 : decode cX1_slotsWithRows 6 = .ok (.getfield 11, 3) := by decide +kernel
theorem dX1_slotsWithRows_9 : decode cX1_slotsWithRows 9 = .ok (.arraylength, 1) := by decide +kernel
theorem dX1_slotsWithRows_10 : decode cX1_slotsWithRows 10 = .ok (.if_icmp .ge 21, 3) := by decide +kernel
theorem dX1_slotsWithRows_13 : decode cX1_slotsWithRows 13 = .ok (.aload_n 0, 1) := by decide +kernel
theorem dX1_slotsWithRows_14 : decode cX1_slotsWithRows 14 = .ok (.getfield 11, 3) := by decide +kernel
theorem dX1_slotsWithRows_17 : decode cX1_slotsWithRows 17 = .ok (.iload_n 2, 1) := by decide +kernel
theorem dX1_slotsWithRows_18 : decode cX1_slotsWithRows 18 = .ok (.aaload, 1) := by decide +kernel
theorem dX1_slotsWithRows_19 : decode cX1_slotsWithRows 19 = .ok (.ifnull 6, 3) := by decide +kernel
theorem dX1_slotsWithRows_22 : decode cX1_slotsWithRows 22 = .ok (.iinc 1 1, 3) := by decide +kernel
theorem dX1_slotsWithRows_25 : decode cX1_slotsWithRows 25 = .ok (.iinc 2 1, 3) := by decide +kernel
theorem dX1_slotsWithRows_28 : decode cX1_slotsWithRows 28 = .ok (.goto (-24), 3) := by decide +kernel
theorem dX1_slotsWithRows_31 : decode cX1_slotsWithRows 31 = .ok (.iload_n 1, 1) := by decide +kernel
theorem dX1_slotsWithRows_32 : decode cX1_slotsWithRows 32 = .ok (.ireturn, 1) := by decide +kernel
theorem dX1_slotsWithThings_0 : decode cX1_slotsWithThings 0 = .ok (.iconst 0, 1) := by decide +kernel
theorem dX1_slotsWithThings_1 : decode cX1_slotsWithThings 1 = .ok (.istore_n 1, 1) := by decide +kernel
theorem dX1_slotsWithThings_2 : decode cX1_slotsWithThings 2 = .ok (.iconst 0, 1) := by decide +kernel
theorem dX1_slotsWithThings_3 : decode cX1_slotsWithThings 3 = .ok (.istore_n 2, 1) := by decide +kernel
theorem dX1_slotsWithThings_4 : decode cX1_slotsWithThings 4 = .ok (.iload_n 2, 1) := by decide +kernel
theorem dX1_slotsWithThings_5 : decode cX1_slotsWithThings 5 = .ok (.aload_n 0, 1) := by decide +kernel
theorem dX1_slotsWithThings_6 : decode cX1_slotsWithThings 6 = .ok (.getfield 17, 3) := by decide +kernel
theorem dX1_slotsWithThings_9 : decode cX1_slotsWithThings 9 = .ok (.arraylength, 1) := by decide +kernel
theorem dX1_slotsWithThings_10 : decode cX1_slotsWithThings 10 = .ok (.if_icmp .ge 34, 3) := by decide +kernel
theorem dX1_slotsWithThings_13 : decode cX1_slotsWithThings 13 = .ok (.aload_n 0, 1) := by decide +kernel
theorem dX1_slotsWithThings_14 : decode cX1_slotsWithThings 14 = .ok (.getfield 17, 3) := by decide +kernel
theorem dX1_slotsWithThings_17 : decode cX1_slotsWithThings 17 = .ok (.iload_n 2, 1) := by decide +kernel
theorem dX1_slotsWithThings_18 : decode cX1_slotsWithThings 18 = .ok (.iaload, 1) := by decide +kernel
theorem dX1_slotsWithThings_19 : decode cX1_slotsWithThings 19 = .ok (.bipush 10, 2) := by decide +kernel
theorem dX1_slotsWithThings_21 : decode cX1_slotsWithThings 21 = .ok (.if_icmp .eq 14, 3) := by decide +kernel
theorem dX1_slotsWithThings_24 : decode cX1_slotsWithThings 24 = .ok (.aload_n 0, 1) := by decide +kernel
theorem dX1_slotsWithThings_25 : decode cX1_slotsWithThings 25 = .ok (.getfield 17, 3) := by decide +kernel
theorem dX1_slotsWithThings_28 : decode cX1_slotsWithThings 28 = .ok (.iload_n 2, 1) := by decide +kernel
theorem dX1_slotsWithThings_29 : decode cX1_slotsWithThings 29 = .ok (.iaload, 1) := by decide +kernel
theorem dX1_slotsWithThings_30 : decode cX1_slotsWithThings 30 = .ok (.bipush 11, 2) := by decide +kernel
theorem dX1_slotsWithThings_32 : decode cX1_slotsWithThings 32 = .ok (.if_icmp .ne 6, 3) := by decide +kernel
theorem dX1_slotsWithThings_35 : decode cX1_slotsWithThings 35 = .ok (.iinc 1 1, 3) := by decide +kernel
theorem dX1_slotsWithThings_38 : decode cX1_slotsWithThings 38 = .ok (.iinc 2 1, 3) := by decide +kernel
theorem dX1_slotsWithThings_41 : decode cX1_slotsWithThings 41 = .ok (.goto (-37), 3) := by decide +kernel
theorem dX1_slotsWithThings_44 : decode cX1_slotsWithThings 44 = .ok (.iload_n 1, 1) := by decide +kernel
theorem dX1_slotsWithThings_45 : decode cX1_slotsWithThings 45 = .ok (.ireturn, 1) := by decide +kernel
theorem dX1_unlikeRows_0 : decode cX1_unlikeRows 0 = .ok (.iconst 0, 1) := by decide +kernel
theorem dX1_unlikeRows_1 : decode cX1_unlikeRows 1 = .ok (.istore_n 1, 1) := by decide +kernel
theorem dX1_unlikeRows_2 : decode cX1_unlikeRows 2 = .ok (.iconst 0, 1) := by decide +kernel
theorem dX1_unlikeRows_3 : decode cX1_unlikeRows 3 = .ok (.istore_n 2, 1) := by decide +kernel
theorem dX1_unlikeRows_4 : decode cX1_unlikeRows 4 = .ok (.iload_n 2, 1) := by decide +kernel
theorem dX1_unlikeRows_5 : decode cX1_unlikeRows 5 = .ok (.aload_n 0, 1) := by decide +kernel
theorem dX1_unlikeRows_6 : decode cX1_unlikeRows 6 = .ok (.getfield 11, 3) := by decide +kernel
theorem dX1_unlikeRows_9 : decode cX1_unlikeRows 9 = .ok (.arraylength, 1) := by decide +kernel
theorem dX1_unlikeRows_10 : decode cX1_unlikeRows 10 = .ok (.if_icmp .ge 20, 3) := by decide +kernel
theorem dX1_unlikeRows_13 : decode cX1_unlikeRows 13 = .ok (.aload_n 0, 1) := by decide +kernel
theorem dX1_unlikeRows_14 : decode cX1_unlikeRows 14 = .ok (.iload_n 2, 1) := by decide +kernel
theorem dX1_unlikeRows_15 : decode cX1_unlikeRows 15 = .ok (.invokevirtual 47, 3) := by decide +kernel
theorem dX1_unlikeRows_18 : decode cX1_unlikeRows 18 = .ok (.ifnull 6, 3) := by decide +kernel
theorem dX1_unlikeRows_21 : decode cX1_unlikeRows 21 = .ok (.iinc 1 1, 3) := by decide +kernel
theorem dX1_unlikeRows_24 : decode cX1_unlikeRows 24 = .ok (.iinc 2 1, 3) := by decide +kernel
theorem dX1_unlikeRows_27 : decode cX1_unlikeRows 27 = .ok (.goto (-23), 3) := by decide +kernel
theorem dX1_unlikeRows_30 : decode cX1_unlikeRows 30 = .ok (.iload_n 1, 1) := by decide +kernel
theorem dX1_unlikeRows_31 : decode cX1_unlikeRows 31 = .ok (.ireturn, 1) := by decide +kernel
theorem dX1_cellsOfUnlikeRows_0 : decode cX1_cellsOfUnlikeRows 0 = .ok (.iconst 0, 1) := by decide +kernel
theorem dX1_cellsOfUnlikeRows_1 : decode cX1_cellsOfUnlikeRows 1 = .ok (.istore_n 1, 1) := by decide +kernel
theorem dX1_cellsOfUnlikeRows_2 : decode cX1_cellsOfUnlikeRows 2 = .ok (.iconst 0, 1) := by decide +kernel
theorem dX1_cellsOfUnlikeRows_3 : decode cX1_cellsOfUnlikeRows 3 = .ok (.istore_n 2, 1) := by decide +kernel
theorem dX1_cellsOfUnlikeRows_4 : decode cX1_cellsOfUnlikeRows 4 = .ok (.iload_n 2, 1) := by decide +kernel
theorem dX1_cellsOfUnlikeRows_5 : decode cX1_cellsOfUnlikeRows 5 = .ok (.aload_n 0, 1) := by decide +kernel
theorem dX1_cellsOfUnlikeRows_6 : decode cX1_cellsOfUnlikeRows 6 = .ok (.getfield 11, 3) := by decide +kernel
theorem dX1_cellsOfUnlikeRows_9 : decode cX1_cellsOfUnlikeRows 9 = .ok (.arraylength, 1) := by decide +kernel
theorem dX1_cellsOfUnlikeRows_10 : decode cX1_cellsOfUnlikeRows 10 = .ok (.if_icmp .ge 26, 3) := by decide +kernel
theorem dX1_cellsOfUnlikeRows_13 : decode cX1_cellsOfUnlikeRows 13 = .ok (.aload_n 0, 1) := by decide +kernel
theorem dX1_cellsOfUnlikeRows_14 : decode cX1_cellsOfUnlikeRows 14 = .ok (.iload_n 2, 1) := by decide +kernel
theorem dX1_cellsOfUnlikeRows_15 : decode cX1_cellsOfUnlikeRows 15 = .ok (.invokevirtual 47, 3) := by decide +kernel
theorem dX1_cellsOfUnlikeRows_18 : decode cX1_cellsOfUnlikeRows 18 = .ok (.astore_n 3, 1) := by decide +kernel
theorem dX1_cellsOfUnlikeRows_19 : decode cX1_cellsOfUnlikeRows 19 = .ok (.aload_n 3, 1) := by decide +kernel
theorem dX1_cellsOfUnlikeRows_20 : decode cX1_cellsOfUnlikeRows 20 = .ok (.ifnull 10, 3) := by decide +kernel
theorem dX1_cellsOfUnlikeRows_23 : decode cX1_cellsOfUnlikeRows 23 = .ok (.iload_n 1, 1) := by decide +kernel
theorem dX1_cellsOfUnlikeRows_24 : decode cX1_cellsOfUnlikeRows 24 = .ok (.aload_n 3, 1) := by decide +kernel
theorem dX1_cellsOfUnlikeRows_25 : decode cX1_cellsOfUnlikeRows 25 = .ok (.invokevirtual 50, 3) := by decide +kernel
theorem dX1_cellsOfUnlikeRows_28 : decode cX1_cellsOfUnlikeRows 28 = .ok (.iadd, 1) := by decide +kernel
theorem dX1_cellsOfUnlikeRows_29 : decode cX1_cellsOfUnlikeRows 29 = .ok (.istore_n 1, 1) := by decide +kernel
theorem dX1_cellsOfUnlikeRows_30 : decode cX1_cellsOfUnlikeRows 30 = .ok (.iinc 2 1, 3) := by decide +kernel
theorem dX1_cellsOfUnlikeRows_33 : decode cX1_cellsOfUnlikeRows 33 = .ok (.goto (-29), 3) := by decide +kernel
theorem dX1_cellsOfUnlikeRows_36 : decode cX1_cellsOfUnlikeRows 36 = .ok (.iload_n 1, 1) := by decide +kernel
theorem dX1_cellsOfUnlikeRows_37 : decode cX1_cellsOfUnlikeRows 37 = .ok (.ireturn, 1) := by decide +kernel
theorem dX1_touchedCells_0 : decode cX1_touchedCells 0 = .ok (.iconst 0, 1) := by decide +kernel
theorem dX1_touchedCells_1 : decode cX1_touchedCells 1 = .ok (.istore_n 1, 1) := by decide +kernel
theorem dX1_touchedCells_2 : decode cX1_touchedCells 2 = .ok (.iconst 0, 1) := by decide +kernel
theorem dX1_touchedCells_3 : decode cX1_touchedCells 3 = .ok (.istore_n 2, 1) := by decide +kernel
theorem dX1_touchedCells_4 : decode cX1_touchedCells 4 = .ok (.iload_n 2, 1) := by decide +kernel
theorem dX1_touchedCells_5 : decode cX1_touchedCells 5 = .ok (.aload_n 0, 1) := by decide +kernel
theorem dX1_touchedCells_6 : decode cX1_touchedCells 6 = .ok (.getfield 11, 3) := by decide +kernel
theorem dX1_touchedCells_9 : decode cX1_touchedCells 9 = .ok (.arraylength, 1) := by decide +kernel
theorem dX1_touchedCells_10 : decode cX1_touchedCells 10 = .ok (.if_icmp .ge 26, 3) := by decide +kernel
theorem dX1_touchedCells_13 : decode cX1_touchedCells 13 = .ok (.aload_n 0, 1) := by decide +kernel
theorem dX1_touchedCells_14 : decode cX1_touchedCells 14 = .ok (.iload_n 2, 1) := by decide +kernel
theorem dX1_touchedCells_15 : decode cX1_touchedCells 15 = .ok (.invokevirtual 47, 3) := by decide +kernel
theorem dX1_touchedCells_18 : decode cX1_touchedCells 18 = .ok (.astore_n 3, 1) := by decide +kernel
theorem dX1_touchedCells_19 : decode cX1_touchedCells 19 = .ok (.aload_n 3, 1) := by decide +kernel
theorem dX1_touchedCells_20 : decode cX1_touchedCells 20 = .ok (.ifnull 10, 3) := by decide +kernel
theorem dX1_touchedCells_23 : decode cX1_touchedCells 23 = .ok (.iload_n 1, 1) := by decide +kernel
theorem dX1_touchedCells_24 : decode cX1_touchedCells 24 = .ok (.aload_n 3, 1) := by decide +kernel
theorem dX1_touchedCells_25 : decode cX1_touchedCells 25 = .ok (.invokevirtual 54, 3) := by decide +kernel
theorem dX1_touchedCells_28 : decode cX1_touchedCells 28 = .ok (.iadd, 1) := by decide +kernel
theorem dX1_touchedCells_29 : decode cX1_touchedCells 29 = .ok (.istore_n 1, 1) := by decide +kernel
theorem dX1_touchedCells_30 : decode cX1_touchedCells 30 = .ok (.iinc 2 1, 3) := by decide +kernel
theorem dX1_touchedCells_33 : decode cX1_touchedCells 33 = .ok (.goto (-29), 3) := by decide +kernel
theorem dX1_touchedCells_36 : decode cX1_touchedCells 36 = .ok (.iload_n 1, 1) := by decide +kernel
theorem dX1_touchedCells_37 : decode cX1_touchedCells 37 = .ok (.ireturn, 1) := by decide +kernel
theorem dX1_copied_0 : decode cX1_copied 0 = .ok (.new 12, 3) := by decide +kernel
theorem dX1_copied_3 : decode cX1_copied 3 = .ok (.dup, 1) := by decide +kernel
theorem dX1_copied_4 : decode cX1_copied 4 = .ok (.invokespecial 57, 3) := by decide +kernel
theorem dX1_copied_7 : decode cX1_copied 7 = .ok (.astore_n 1, 1) := by decide +kernel
theorem dX1_copied_8 : decode cX1_copied 8 = .ok (.iconst 0, 1) := by decide +kernel
theorem dX1_copied_9 : decode cX1_copied 9 = .ok (.istore_n 2, 1) := by decide +kernel
theorem dX1_copied_10 : decode cX1_copied 10 = .ok (.iload_n 2, 1) := by decide +kernel
theorem dX1_copied_11 : decode cX1_copied 11 = .ok (.bipush 10, 2) := by decide +kernel
theorem dX1_copied_13 : decode cX1_copied 13 = .ok (.if_icmp .ge 72, 3) := by decide +kernel
theorem dX1_copied_16 : decode cX1_copied 16 = .ok (.aload_n 0, 1) := by decide +kernel
theorem dX1_copied_17 : decode cX1_copied 17 = .ok (.getfield 11, 3) := by decide +kernel
theorem dX1_copied_20 : decode cX1_copied 20 = .ok (.iload_n 2, 1) := by decide +kernel
theorem dX1_copied_21 : decode cX1_copied 21 = .ok (.aaload, 1) := by decide +kernel
theorem dX1_copied_22 : decode cX1_copied 22 = .ok (.astore_n 3, 1) := by decide +kernel
theorem dX1_copied_23 : decode cX1_copied 23 = .ok (.aload_n 0, 1) := by decide +kernel
theorem dX1_copied_24 : decode cX1_copied 24 = .ok (.iload_n 2, 1) := by decide +kernel
theorem dX1_copied_25 : decode cX1_copied 25 = .ok (.invokevirtual 43, 3) := by decide +kernel
theorem dX1_copied_28 : decode cX1_copied 28 = .ok (.istore 4, 2) := by decide +kernel
theorem dX1_copied_30 : decode cX1_copied 30 = .ok (.aload_n 3, 1) := by decide +kernel
theorem dX1_copied_31 : decode cX1_copied 31 = .ok (.ifnonnull 23, 3) := by decide +kernel
theorem dX1_copied_34 : decode cX1_copied 34 = .ok (.aload_n 1, 1) := by decide +kernel
theorem dX1_copied_35 : decode cX1_copied 35 = .ok (.iload_n 2, 1) := by decide +kernel
theorem dX1_copied_36 : decode cX1_copied 36 = .ok (.aload_n 0, 1) := by decide +kernel
theorem dX1_copied_37 : decode cX1_copied 37 = .ok (.getfield 17, 3) := by decide +kernel
theorem dX1_copied_40 : decode cX1_copied 40 = .ok (.iload_n 2, 1) := by decide +kernel
theorem dX1_copied_41 : decode cX1_copied 41 = .ok (.iaload, 1) := by decide +kernel
theorem dX1_copied_42 : decode cX1_copied 42 = .ok (.aload_n 0, 1) := by decide +kernel
theorem dX1_copied_43 : decode cX1_copied 43 = .ok (.getfield 21, 3) := by decide +kernel
theorem dX1_copied_46 : decode cX1_copied 46 = .ok (.iload_n 2, 1) := by decide +kernel
theorem dX1_copied_47 : decode cX1_copied 47 = .ok (.iaload, 1) := by decide +kernel
theorem dX1_copied_48 : decode cX1_copied 48 = .ok (.invokevirtual 58, 3) := by decide +kernel
theorem dX1_copied_51 : decode cX1_copied 51 = .ok (.goto 28, 3) := by decide +kernel
theorem dX1_copied_54 : decode cX1_copied 54 = .ok (.iload 4, 2) := by decide +kernel
theorem dX1_copied_56 : decode cX1_copied 56 = .ok (.iload_n 2, 1) := by decide +kernel
theorem dX1_copied_57 : decode cX1_copied 57 = .ok (.if_icmp .ne 15, 3) := by decide +kernel
theorem dX1_copied_60 : decode cX1_copied 60 = .ok (.aload_n 1, 1) := by decide +kernel
theorem dX1_copied_61 : decode cX1_copied 61 = .ok (.iload_n 2, 1) := by decide +kernel
theorem dX1_copied_62 : decode cX1_copied 62 = .ok (.aload_n 3, 1) := by decide +kernel
theorem dX1_copied_63 : decode cX1_copied 63 = .ok (.invokevirtual 62, 3) := by decide +kernel
theorem dX1_copied_66 : decode cX1_copied 66 = .ok (.invokevirtual 66, 3) := by decide +kernel
theorem dX1_copied_69 : decode cX1_copied 69 = .ok (.goto 10, 3) := by decide +kernel
theorem dX1_copied_72 : decode cX1_copied 72 = .ok (.aload_n 1, 1) := by decide +kernel
theorem dX1_copied_73 : decode cX1_copied 73 = .ok (.iload_n 2, 1) := by decide +kernel
theorem dX1_copied_74 : decode cX1_copied 74 = .ok (.iload 4, 2) := by decide +kernel
theorem dX1_copied_76 : decode cX1_copied 76 = .ok (.invokevirtual 70, 3) := by decide +kernel
theorem dX1_copied_79 : decode cX1_copied 79 = .ok (.iinc 2 1, 3) := by decide +kernel
theorem dX1_copied_82 : decode cX1_copied 82 = .ok (.goto (-72), 3) := by decide +kernel
theorem dX1_copied_85 : decode cX1_copied 85 = .ok (.iconst 0, 1) := by decide +kernel
theorem dX1_copied_86 : decode cX1_copied 86 = .ok (.istore_n 2, 1) := by decide +kernel
theorem dX1_copied_87 : decode cX1_copied 87 = .ok (.iload_n 2, 1) := by decide +kernel
theorem dX1_copied_88 : decode cX1_copied 88 = .ok (.aload_n 0, 1) := by decide +kernel
theorem dX1_copied_89 : decode cX1_copied 89 = .ok (.getfield 26, 3) := by decide +kernel
theorem dX1_copied_92 : decode cX1_copied 92 = .ok (.arraylength, 1) := by decide +kernel
theorem dX1_copied_93 : decode cX1_copied 93 = .ok (.if_icmp .ge 57, 3) := by decide +kernel
theorem dX1_copied_96 : decode cX1_copied 96 = .ok (.aload_n 0, 1) := by decide +kernel
theorem dX1_copied_97 : decode cX1_copied 97 = .ok (.getfield 26, 3) := by decide +kernel
theorem dX1_copied_100 : decode cX1_copied 100 = .ok (.iload_n 2, 1) := by decide +kernel
theorem dX1_copied_101 : decode cX1_copied 101 = .ok (.aaload, 1) := by decide +kernel
theorem dX1_copied_102 : decode cX1_copied 102 = .ok (.astore_n 3, 1) := by decide +kernel
theorem dX1_copied_103 : decode cX1_copied 103 = .ok (.aload_n 1, 1) := by decide +kernel
theorem dX1_copied_104 : decode cX1_copied 104 = .ok (.iload_n 2, 1) := by decide +kernel
theorem dX1_copied_105 : decode cX1_copied 105 = .ok (.invokevirtual 74, 3) := by decide +kernel
theorem dX1_copied_108 : decode cX1_copied 108 = .ok (.astore 4, 2) := by decide +kernel
theorem dX1_copied_110 : decode cX1_copied 110 = .ok (.aload_n 3, 1) := by decide +kernel
theorem dX1_copied_111 : decode cX1_copied 111 = .ok (.ifnull 33, 3) := by decide +kernel
theorem dX1_copied_114 : decode cX1_copied 114 = .ok (.aload 4, 2) := by decide +kernel
theorem dX1_copied_116 : decode cX1_copied 116 = .ok (.ifnull 28, 3) := by decide +kernel
theorem dX1_copied_119 : decode cX1_copied 119 = .ok (.aload 4, 2) := by decide +kernel
theorem dX1_copied_121 : decode cX1_copied 121 = .ok (.aload_n 3, 1) := by decide +kernel
theorem dX1_copied_122 : decode cX1_copied 122 = .ok (.getfield 78, 3) := by decide +kernel
theorem dX1_copied_125 : decode cX1_copied 125 = .ok (.aload_n 3, 1) := by decide +kernel
theorem dX1_copied_126 : decode cX1_copied 126 = .ok (.getfield 81, 3) := by decide +kernel
theorem dX1_copied_129 : decode cX1_copied 129 = .ok (.aload_n 3, 1) := by decide +kernel
theorem dX1_copied_130 : decode cX1_copied 130 = .ok (.getfield 84, 3) := by decide +kernel
theorem dX1_copied_133 : decode cX1_copied 133 = .ok (.aload_n 3, 1) := by decide +kernel
theorem dX1_copied_134 : decode cX1_copied 134 = .ok (.getfield 87, 3) := by decide +kernel
theorem dX1_copied_137 : decode cX1_copied 137 = .ok (.aload_n 3, 1) := by decide +kernel
theorem dX1_copied_138 : decode cX1_copied 138 = .ok (.getfield 90, 3) := by decide +kernel
theorem dX1_copied_141 : decode cX1_copied 141 = .ok (.invokevirtual 93, 3) := by decide +kernel
theorem dX1_copied_144 : decode cX1_copied 144 = .ok (.iinc 2 1, 3) := by decide +kernel
theorem dX1_copied_147 : decode cX1_copied 147 = .ok (.goto (-60), 3) := by decide +kernel
theorem dX1_copied_150 : decode cX1_copied 150 = .ok (.aload_n 1, 1) := by decide +kernel
theorem dX1_copied_151 : decode cX1_copied 151 = .ok (.areturn, 1) := by decide +kernel
theorem dX2_init_0 : decode cX2_init 0 = .ok (.aload_n 0, 1) := by decide +kernel
theorem dX2_init_1 : decode cX2_init 1 = .ok (.invokespecial 3, 3) := by decide +kernel
theorem dX2_init_4 : decode cX2_init 4 = .ok (.aload_n 0, 1) := by decide +kernel
theorem dX2_init_5 : decode cX2_init 5 = .ok (.bipush 8, 2) := by decide +kernel
theorem dX2_init_7 : decode cX2_init 7 = .ok (.putfield 9, 3) := by decide +kernel
theorem dX2_init_10 : decode cX2_init 10 = .ok (.aload_n 0, 1) := by decide +kernel
theorem dX2_init_11 : decode cX2_init 11 = .ok (.lconst 0, 1) := by decide +kernel
theorem dX2_init_12 : decode cX2_init 12 = .ok (.putfield 15, 3) := by decide +kernel
theorem dX2_init_15 : decode cX2_init 15 = .ok (.return_, 1) := by decide +kernel
theorem dX2_become_0 : decode cX2_become 0 = .ok (.aload_n 0, 1) := by decide +kernel
theorem dX2_become_1 : decode cX2_become 1 = .ok (.iload_n 1, 1) := by decide +kernel
theorem dX2_become_2 : decode cX2_become 2 = .ok (.putfield 9, 3) := by decide +kernel
theorem dX2_become_5 : decode cX2_become 5 = .ok (.aload_n 0, 1) := by decide +kernel
theorem dX2_become_6 : decode cX2_become 6 = .ok (.lload_n 2, 1) := by decide +kernel
theorem dX2_become_7 : decode cX2_become 7 = .ok (.putfield 15, 3) := by decide +kernel
theorem dX2_become_10 : decode cX2_become 10 = .ok (.return_, 1) := by decide +kernel
theorem dX3_init_0 : decode cX3_init 0 = .ok (.aload_n 0, 1) := by decide +kernel
theorem dX3_init_1 : decode cX3_init 1 = .ok (.invokespecial 3, 3) := by decide +kernel
theorem dX3_init_4 : decode cX3_init 4 = .ok (.aload_n 0, 1) := by decide +kernel
theorem dX3_init_5 : decode cX3_init 5 = .ok (.bipush 64, 2) := by decide +kernel
theorem dX3_init_7 : decode cX3_init 7 = .ok (.anewarray 9, 3) := by decide +kernel
theorem dX3_init_10 : decode cX3_init 10 = .ok (.putfield 11, 3) := by decide +kernel
theorem dX3_init_13 : decode cX3_init 13 = .ok (.aload_n 0, 1) := by decide +kernel
theorem dX3_init_14 : decode cX3_init 14 = .ok (.iconst 0, 1) := by decide +kernel
theorem dX3_init_15 : decode cX3_init 15 = .ok (.putfield 17, 3) := by decide +kernel
theorem dX3_init_18 : decode cX3_init 18 = .ok (.aload_n 0, 1) := by decide +kernel
theorem dX3_init_19 : decode cX3_init 19 = .ok (.bipush 24, 2) := by decide +kernel
theorem dX3_init_21 : decode cX3_init 21 = .ok (.anewarray 21, 3) := by decide +kernel
theorem dX3_init_24 : decode cX3_init 24 = .ok (.putfield 23, 3) := by decide +kernel
theorem dX3_init_27 : decode cX3_init 27 = .ok (.aload_n 0, 1) := by decide +kernel
theorem dX3_init_28 : decode cX3_init 28 = .ok (.iconst 0, 1) := by decide +kernel
theorem dX3_init_29 : decode cX3_init 29 = .ok (.putfield 27, 3) := by decide +kernel
theorem dX3_init_32 : decode cX3_init 32 = .ok (.aload_n 0, 1) := by decide +kernel
theorem dX3_init_33 : decode cX3_init 33 = .ok (.iconst 0, 1) := by decide +kernel
theorem dX3_init_34 : decode cX3_init 34 = .ok (.putfield 30, 3) := by decide +kernel
theorem dX3_init_37 : decode cX3_init 37 = .ok (.return_, 1) := by decide +kernel
theorem dX3_put_0 : decode cX3_put 0 = .ok (.aload_n 1, 1) := by decide +kernel
theorem dX3_put_1 : decode cX3_put 1 = .ok (.ifnull 22, 3) := by decide +kernel
theorem dX3_put_4 : decode cX3_put 4 = .ok (.aload_n 0, 1) := by decide +kernel
theorem dX3_put_5 : decode cX3_put 5 = .ok (.getfield 17, 3) := by decide +kernel
theorem dX3_put_8 : decode cX3_put 8 = .ok (.ifCond .lt 15, 3) := by decide +kernel
theorem dX3_put_11 : decode cX3_put 11 = .ok (.aload_n 0, 1) := by decide +kernel
theorem dX3_put_12 : decode cX3_put 12 = .ok (.getfield 17, 3) := by decide +kernel
theorem dX3_put_15 : decode cX3_put 15 = .ok (.aload_n 0, 1) := by decide +kernel
theorem dX3_put_16 : decode cX3_put 16 = .ok (.getfield 11, 3) := by decide +kernel
theorem dX3_put_19 : decode cX3_put 19 = .ok (.arraylength, 1) := by decide +kernel
theorem dX3_put_20 : decode cX3_put 20 = .ok (.if_icmp .lt 4, 3) := by decide +kernel
theorem dX3_put_23 : decode cX3_put 23 = .ok (.return_, 1) := by decide +kernel
theorem dX3_put_24 : decode cX3_put 24 = .ok (.aload_n 0, 1) := by decide +kernel
theorem dX3_put_25 : decode cX3_put 25 = .ok (.getfield 11, 3) := by decide +kernel
theorem dX3_put_28 : decode cX3_put 28 = .ok (.aload_n 0, 1) := by decide +kernel
theorem dX3_put_29 : decode cX3_put 29 = .ok (.getfield 17, 3) := by decide +kernel
theorem dX3_put_32 : decode cX3_put 32 = .ok (.new 9, 3) := by decide +kernel
theorem dX3_put_35 : decode cX3_put 35 = .ok (.dup, 1) := by decide +kernel
theorem dX3_put_36 : decode cX3_put 36 = .ok (.aload_n 1, 1) := by decide +kernel
theorem dX3_put_37 : decode cX3_put 37 = .ok (.iload_n 2, 1) := by decide +kernel
theorem dX3_put_38 : decode cX3_put 38 = .ok (.aload_n 1, 1) := by decide +kernel
theorem dX3_put_39 : decode cX3_put 39 = .ok (.iload_n 2, 1) := by decide +kernel
theorem dX3_put_40 : decode cX3_put 40 = .ok (.invokevirtual 33, 3) := by decide +kernel
theorem dX3_put_43 : decode cX3_put 43 = .ok (.aload_n 1, 1) := by decide +kernel
theorem dX3_put_44 : decode cX3_put 44 = .ok (.iload_n 2, 1) := by decide +kernel
theorem dX3_put_45 : decode cX3_put 45 = .ok (.invokevirtual 39, 3) := by decide +kernel
theorem dX3_put_48 : decode cX3_put 48 = .ok (.iload_n 3, 1) := by decide +kernel
theorem dX3_put_49 : decode cX3_put 49 = .ok (.lload 4, 2) := by decide +kernel
theorem dX3_put_51 : decode cX3_put 51 = .ok (.invokespecial 43, 3) := by decide +kernel
theorem dX3_put_54 : decode cX3_put 54 = .ok (.aastore, 1) := by decide +kernel
theorem dX3_put_55 : decode cX3_put 55 = .ok (.aload_n 0, 1) := by decide +kernel
theorem dX3_put_56 : decode cX3_put 56 = .ok (.dup, 1) := by decide +kernel
theorem dX3_put_57 : decode cX3_put 57 = .ok (.getfield 17, 3) := by decide +kernel
theorem dX3_put_60 : decode cX3_put 60 = .ok (.iconst 1, 1) := by decide +kernel
theorem dX3_put_61 : decode cX3_put 61 = .ok (.iadd, 1) := by decide +kernel
theorem dX3_put_62 : decode cX3_put 62 = .ok (.putfield 17, 3) := by decide +kernel
theorem dX3_put_65 : decode cX3_put 65 = .ok (.aload_n 1, 1) := by decide +kernel
theorem dX3_put_66 : decode cX3_put 66 = .ok (.iload_n 2, 1) := by decide +kernel
theorem dX3_put_67 : decode cX3_put 67 = .ok (.iload_n 3, 1) := by decide +kernel
theorem dX3_put_68 : decode cX3_put 68 = .ok (.lload 4, 2) := by decide +kernel
theorem dX3_put_70 : decode cX3_put 70 = .ok (.invokevirtual 46, 3) := by decide +kernel
theorem dX3_put_73 : decode cX3_put 73 = .ok (.return_, 1) := by decide +kernel
theorem dX3_takeBackPending_0 : decode cX3_takeBackPending 0 = .ok (.aload_n 0, 1) := by decide +kernel
theorem dX3_takeBackPending_1 : decode cX3_takeBackPending 1 = .ok (.getfield 17, 3) := by decide +kernel
theorem dX3_takeBackPending_4 : decode cX3_takeBackPending 4 = .ok (.aload_n 0, 1) := by decide +kernel
theorem dX3_takeBackPending_5 : decode cX3_takeBackPending 5 = .ok (.getfield 11, 3) := by decide +kernel
theorem dX3_takeBackPending_8 : decode cX3_takeBackPending 8 = .ok (.arraylength, 1) := by decide +kernel
theorem dX3_takeBackPending_9 : decode cX3_takeBackPending 9 = .ok (.invokestatic 50, 3) := by decide +kernel
theorem dX3_takeBackPending_12 : decode cX3_takeBackPending 12 = .ok (.iconst 1, 1) := by decide +kernel
theorem dX3_takeBackPending_13 : decode cX3_takeBackPending 13 = .ok (.isub, 1) := by decide +kernel
theorem dX3_takeBackPending_14 : decode cX3_takeBackPending 14 = .ok (.istore_n 1, 1) := by decide +kernel
theorem dX3_takeBackPending_15 : decode cX3_takeBackPending 15 = .ok (.iload_n 1, 1) := by decide +kernel
theorem dX3_takeBackPending_16 : decode cX3_takeBackPending 16 = .ok (.ifCond .lt 24, 3) := by decide +kernel
theorem dX3_takeBackPending_19 : decode cX3_takeBackPending 19 = .ok (.aload_n 0, 1) := by decide +kernel
theorem dX3_takeBackPending_20 : decode cX3_takeBackPending 20 = .ok (.getfield 11, 3) := by decide +kernel
theorem dX3_takeBackPending_23 : decode cX3_takeBackPending 23 = .ok (.iload_n 1, 1) := by decide +kernel
theorem dX3_takeBackPending_24 : decode cX3_takeBackPending 24 = .ok (.aaload, 1) := by decide +kernel
theorem dX3_takeBackPending_25 : decode cX3_takeBackPending 25 = .ok (.astore_n 2, 1) := by decide +kernel
theorem dX3_takeBackPending_26 : decode cX3_takeBackPending 26 = .ok (.aload_n 2, 1) := by decide +kernel
theorem dX3_takeBackPending_27 : decode cX3_takeBackPending 27 = .ok (.ifnull 7, 3) := by decide +kernel
theorem dX3_takeBackPending_30 : decode cX3_takeBackPending 30 = .ok (.aload_n 2, 1) := by decide +kernel
theorem dX3_takeBackPending_31 : decode cX3_takeBackPending 31 = .ok (.invokevirtual 56, 3) := by decide +kernel
theorem dX3_takeBackPending_34 : decode cX3_takeBackPending 34 = .ok (.iinc 1 (-1), 3) := by decide +kernel
theorem dX3_takeBackPending_37 : decode cX3_takeBackPending 37 = .ok (.goto (-22), 3) := by decide +kernel
theorem dX3_takeBackPending_40 : decode cX3_takeBackPending 40 = .ok (.aload_n 0, 1) := by decide +kernel
theorem dX3_takeBackPending_41 : decode cX3_takeBackPending 41 = .ok (.iconst 0, 1) := by decide +kernel
theorem dX3_takeBackPending_42 : decode cX3_takeBackPending 42 = .ok (.putfield 17, 3) := by decide +kernel
theorem dX3_takeBackPending_45 : decode cX3_takeBackPending 45 = .ok (.return_, 1) := by decide +kernel
theorem dX3_settle_0 : decode cX3_settle 0 = .ok (.aload_n 0, 1) := by decide +kernel
theorem dX3_settle_1 : decode cX3_settle 1 = .ok (.getfield 17, 3) := by decide +kernel
theorem dX3_settle_4 : decode cX3_settle 4 = .ok (.ifCond .ne 4, 3) := by decide +kernel
theorem dX3_settle_7 : decode cX3_settle 7 = .ok (.return_, 1) := by decide +kernel
theorem dX3_settle_8 : decode cX3_settle 8 = .ok (.new 21, 3) := by decide +kernel
theorem dX3_settle_11 : decode cX3_settle 11 = .ok (.dup, 1) := by decide +kernel
theorem dX3_settle_12 : decode cX3_settle 12 = .ok (.aload_n 0, 1) := by decide +kernel
theorem dX3_settle_13 : decode cX3_settle 13 = .ok (.getfield 11, 3) := by decide +kernel
theorem dX3_settle_16 : decode cX3_settle 16 = .ok (.aload_n 0, 1) := by decide +kernel
theorem dX3_settle_17 : decode cX3_settle 17 = .ok (.getfield 17, 3) := by decide +kernel
theorem dX3_settle_20 : decode cX3_settle 20 = .ok (.invokespecial 59, 3) := by decide +kernel
theorem dX3_settle_23 : decode cX3_settle 23 = .ok (.astore_n 1, 1) := by decide +kernel
theorem dX3_settle_24 : decode cX3_settle 24 = .ok (.aload_n 0, 1) := by decide +kernel
theorem dX3_settle_25 : decode cX3_settle 25 = .ok (.iconst 0, 1) := by decide +kernel
theorem dX3_settle_26 : decode cX3_settle 26 = .ok (.putfield 17, 3) := by decide +kernel
theorem dX3_settle_29 : decode cX3_settle 29 = .ok (.aload_n 1, 1) := by decide +kernel
theorem dX3_settle_30 : decode cX3_settle 30 = .ok (.invokevirtual 62, 3) := by decide +kernel
theorem dX3_settle_33 : decode cX3_settle 33 = .ok (.aload_n 0, 1) := by decide +kernel
theorem dX3_settle_34 : decode cX3_settle 34 = .ok (.aload_n 1, 1) := by decide +kernel
theorem dX3_settle_35 : decode cX3_settle 35 = .ok (.invokevirtual 65, 3) := by decide +kernel
theorem dX3_settle_38 : decode cX3_settle 38 = .ok (.return_, 1) := by decide +kernel
theorem dX3_keep_0 : decode cX3_keep 0 = .ok (.aload_n 0, 1) := by decide +kernel
theorem dX3_keep_1 : decode cX3_keep 1 = .ok (.getfield 27, 3) := by decide +kernel
theorem dX3_keep_4 : decode cX3_keep 4 = .ok (.aload_n 0, 1) := by decide +kernel
theorem dX3_keep_5 : decode cX3_keep 5 = .ok (.getfield 23, 3) := by decide +kernel
theorem dX3_keep_8 : decode cX3_keep 8 = .ok (.arraylength, 1) := by decide +kernel
theorem dX3_keep_9 : decode cX3_keep 9 = .ok (.if_icmp .lt 7, 3) := by decide +kernel
theorem dX3_keep_12 : decode cX3_keep 12 = .ok (.aload_n 0, 1) := by decide +kernel
theorem dX3_keep_13 : decode cX3_keep 13 = .ok (.invokevirtual 69, 3) := by decide +kernel
theorem dX3_keep_16 : decode cX3_keep 16 = .ok (.aload_n 0, 1) := by decide +kernel
theorem dX3_keep_17 : decode cX3_keep 17 = .ok (.getfield 27, 3) := by decide +kernel
theorem dX3_keep_20 : decode cX3_keep 20 = .ok (.ifCond .lt 43, 3) := by decide +kernel
theorem dX3_keep_23 : decode cX3_keep 23 = .ok (.aload_n 0, 1) := by decide +kernel
theorem dX3_keep_24 : decode cX3_keep 24 = .ok (.getfield 27, 3) := by decide +kernel
theorem dX3_keep_27 : decode cX3_keep 27 = .ok (.aload_n 0, 1) := by decide +kernel
theorem dX3_keep_28 : decode cX3_keep 28 = .ok (.getfield 23, 3) := by decide +kernel
theorem dX3_keep_31 : decode cX3_keep 31 = .ok (.arraylength, 1) := by decide +kernel
theorem dX3_keep_32 : decode cX3_keep 32 = .ok (.if_icmp .ge 31, 3) := by decide +kernel
theorem dX3_keep_35 : decode cX3_keep 35 = .ok (.aload_n 0, 1) := by decide +kernel
theorem dX3_keep_36 : decode cX3_keep 36 = .ok (.getfield 23, 3) := by decide +kernel
theorem dX3_keep_39 : decode cX3_keep 39 = .ok (.aload_n 0, 1) := by decide +kernel
theorem dX3_keep_40 : decode cX3_keep 40 = .ok (.getfield 27, 3) := by decide +kernel
theorem dX3_keep_43 : decode cX3_keep 43 = .ok (.aload_n 1, 1) := by decide +kernel
theorem dX3_keep_44 : decode cX3_keep 44 = .ok (.aastore, 1) := by decide +kernel
theorem dX3_keep_45 : decode cX3_keep 45 = .ok (.aload_n 0, 1) := by decide +kernel
theorem dX3_keep_46 : decode cX3_keep 46 = .ok (.dup, 1) := by decide +kernel
theorem dX3_keep_47 : decode cX3_keep 47 = .ok (.getfield 27, 3) := by decide +kernel
theorem dX3_keep_50 : decode cX3_keep 50 = .ok (.iconst 1, 1) := by decide +kernel
theorem dX3_keep_51 : decode cX3_keep 51 = .ok (.iadd, 1) := by decide +kernel
theorem dX3_keep_52 : decode cX3_keep 52 = .ok (.putfield 27, 3) := by decide +kernel
theorem dX3_keep_55 : decode cX3_keep 55 = .ok (.aload_n 0, 1) := by decide +kernel
theorem dX3_keep_56 : decode cX3_keep 56 = .ok (.aload_n 0, 1) := by decide +kernel
theorem dX3_keep_57 : decode cX3_keep 57 = .ok (.getfield 27, 3) := by decide +kernel
theorem dX3_keep_60 : decode cX3_keep 60 = .ok (.putfield 30, 3) := by decide +kernel
theorem dX3_keep_63 : decode cX3_keep 63 = .ok (.return_, 1) := by decide +kernel
theorem dX3_dropOldest_0 : decode cX3_dropOldest 0 = .ok (.iconst 1, 1) := by decide +kernel
theorem dX3_dropOldest_1 : decode cX3_dropOldest 1 = .ok (.istore_n 1, 1) := by decide +kernel
theorem dX3_dropOldest_2 : decode cX3_dropOldest 2 = .ok (.iload_n 1, 1) := by decide +kernel
theorem dX3_dropOldest_3 : decode cX3_dropOldest 3 = .ok (.aload_n 0, 1) := by decide +kernel
theorem dX3_dropOldest_4 : decode cX3_dropOldest 4 = .ok (.getfield 23, 3) := by decide +kernel
theorem dX3_dropOldest_7 : decode cX3_dropOldest 7 = .ok (.arraylength, 1) := by decide +kernel
theorem dX3_dropOldest_8 : decode cX3_dropOldest 8 = .ok (.if_icmp .ge 23, 3) := by decide +kernel
theorem dX3_dropOldest_11 : decode cX3_dropOldest 11 = .ok (.aload_n 0, 1) := by decide +kernel
theorem dX3_dropOldest_12 : decode cX3_dropOldest 12 = .ok (.getfield 23, 3) := by decide +kernel
theorem dX3_dropOldest_15 : decode cX3_dropOldest 15 = .ok (.iload_n 1, 1) := by decide +kernel
theorem dX3_dropOldest_16 : decode cX3_dropOldest 16 = .ok (.iconst 1, 1) := by decide +kernel
theorem dX3_dropOldest_17 : decode cX3_dropOldest 17 = .ok (.isub, 1) := by decide +kernel
theorem dX3_dropOldest_18 : decode cX3_dropOldest 18 = .ok (.aload_n 0, 1) := by decide +kernel
theorem dX3_dropOldest_19 : decode cX3_dropOldest 19 = .ok (.getfield 23, 3) := by decide +kernel
theorem dX3_dropOldest_22 : decode cX3_dropOldest 22 = .ok (.iload_n 1, 1) := by decide +kernel
theorem dX3_dropOldest_23 : decode cX3_dropOldest 23 = .ok (.aaload, 1) := by decide +kernel
theorem dX3_dropOldest_24 : decode cX3_dropOldest 24 = .ok (.aastore, 1) := by decide +kernel
theorem dX3_dropOldest_25 : decode cX3_dropOldest 25 = .ok (.iinc 1 1, 3) := by decide +kernel
theorem dX3_dropOldest_28 : decode cX3_dropOldest 28 = .ok (.goto (-26), 3) := by decide +kernel
theorem dX3_dropOldest_31 : decode cX3_dropOldest 31 = .ok (.aload_n 0, 1) := by decide +kernel
theorem dX3_dropOldest_32 : decode cX3_dropOldest 32 = .ok (.dup, 1) := by decide +kernel
theorem dX3_dropOldest_33 : decode cX3_dropOldest 33 = .ok (.getfield 27, 3) := by decide +kernel
theorem dX3_dropOldest_36 : decode cX3_dropOldest 36 = .ok (.iconst 1, 1) := by decide +kernel
theorem dX3_dropOldest_37 : decode cX3_dropOldest 37 = .ok (.isub, 1) := by decide +kernel
theorem dX3_dropOldest_38 : decode cX3_dropOldest 38 = .ok (.putfield 27, 3) := by decide +kernel
theorem dX3_dropOldest_41 : decode cX3_dropOldest 41 = .ok (.return_, 1) := by decide +kernel
theorem dX3_clear_0 : decode cX3_clear 0 = .ok (.aload_n 0, 1) := by decide +kernel
theorem dX3_clear_1 : decode cX3_clear 1 = .ok (.iconst 0, 1) := by decide +kernel
theorem dX3_clear_2 : decode cX3_clear 2 = .ok (.putfield 27, 3) := by decide +kernel
theorem dX3_clear_5 : decode cX3_clear 5 = .ok (.aload_n 0, 1) := by decide +kernel
theorem dX3_clear_6 : decode cX3_clear 6 = .ok (.iconst 0, 1) := by decide +kernel
theorem dX3_clear_7 : decode cX3_clear 7 = .ok (.putfield 30, 3) := by decide +kernel
theorem dX3_clear_10 : decode cX3_clear 10 = .ok (.return_, 1) := by decide +kernel
theorem dX3_forget_0 : decode cX3_forget 0 = .ok (.iconst 0, 1) := by decide +kernel
theorem dX3_forget_1 : decode cX3_forget 1 = .ok (.istore_n 2, 1) := by decide +kernel
theorem dX3_forget_2 : decode cX3_forget 2 = .ok (.iconst 0, 1) := by decide +kernel
theorem dX3_forget_3 : decode cX3_forget 3 = .ok (.istore_n 3, 1) := by decide +kernel
theorem dX3_forget_4 : decode cX3_forget 4 = .ok (.iconst 0, 1) := by decide +kernel
theorem dX3_forget_5 : decode cX3_forget 5 = .ok (.istore 4, 2) := by decide +kernel
theorem dX3_forget_7 : decode cX3_forget 7 = .ok (.iload 4, 2) := by decide +kernel
theorem dX3_forget_9 : decode cX3_forget 9 = .ok (.aload_n 0, 1) := by decide +kernel
theorem dX3_forget_10 : decode cX3_forget 10 = .ok (.getfield 30, 3) := by decide +kernel
theorem dX3_forget_13 : decode cX3_forget 13 = .ok (.if_icmp .ge 68, 3) := by decide +kernel
theorem dX3_forget_16 : decode cX3_forget 16 = .ok (.iload 4, 2) := by decide +kernel
theorem dX3_forget_18 : decode cX3_forget 18 = .ok (.aload_n 0, 1) := by decide +kernel
theorem dX3_forget_19 : decode cX3_forget 19 = .ok (.getfield 23, 3) := by decide +kernel
theorem dX3_forget_22 : decode cX3_forget 22 = .ok (.arraylength, 1) := by decide +kernel
theorem dX3_forget_23 : decode cX3_forget 23 = .ok (.if_icmp .ge 58, 3) := by decide +kernel
theorem dX3_forget_26 : decode cX3_forget 26 = .ok (.aload_n 0, 1) := by decide +kernel
theorem dX3_forget_27 : decode cX3_forget 27 = .ok (.getfield 23, 3) := by decide +kernel
theorem dX3_forget_30 : decode cX3_forget 30 = .ok (.iload 4, 2) := by decide +kernel
theorem dX3_forget_32 : decode cX3_forget 32 = .ok (.aaload, 1) := by decide +kernel
theorem dX3_forget_33 : decode cX3_forget 33 = .ok (.astore 5, 2) := by decide +kernel
theorem dX3_forget_35 : decode cX3_forget 35 = .ok (.aload 5, 2) := by decide +kernel
theorem dX3_forget_37 : decode cX3_forget 37 = .ok (.ifnull 38, 3) := by decide +kernel
theorem dX3_forget_40 : decode cX3_forget 40 = .ok (.aload 5, 2) := by decide +kernel
theorem dX3_forget_42 : decode cX3_forget 42 = .ok (.aload_n 1, 1) := by decide +kernel
theorem dX3_forget_43 : decode cX3_forget 43 = .ok (.invokevirtual 72, 3) := by decide +kernel
theorem dX3_forget_46 : decode cX3_forget 46 = .ok (.ifCond .ne 29, 3) := by decide +kernel
theorem dX3_forget_49 : decode cX3_forget 49 = .ok (.aload_n 0, 1) := by decide +kernel
theorem dX3_forget_50 : decode cX3_forget 50 = .ok (.getfield 23, 3) := by decide +kernel
theorem dX3_forget_53 : decode cX3_forget 53 = .ok (.iload_n 2, 1) := by decide +kernel
theorem dX3_forget_54 : decode cX3_forget 54 = .ok (.aload 5, 2) := by decide +kernel
theorem dX3_forget_56 : decode cX3_forget 56 = .ok (.aastore, 1) := by decide +kernel
theorem dX3_forget_57 : decode cX3_forget 57 = .ok (.iinc 2 1, 3) := by decide +kernel
theorem dX3_forget_60 : decode cX3_forget 60 = .ok (.iload 4, 2) := by decide +kernel
theorem dX3_forget_62 : decode cX3_forget 62 = .ok (.aload_n 0, 1) := by decide +kernel
theorem dX3_forget_63 : decode cX3_forget 63 = .ok (.getfield 27, 3) := by decide +kernel
theorem dX3_forget_66 : decode cX3_forget 66 = .ok (.if_icmp .ge 7, 3) := by decide +kernel
theorem dX3_forget_69 : decode cX3_forget 69 = .ok (.iload_n 2, 1) := by decide +kernel
theorem dX3_forget_70 : decode cX3_forget 70 = .ok (.goto 4, 3) := by decide +kernel
theorem dX3_forget_73 : decode cX3_forget 73 = .ok (.iload_n 3, 1) := by decide +kernel
theorem dX3_forget_74 : decode cX3_forget 74 = .ok (.istore_n 3, 1) := by decide +kernel
theorem dX3_forget_75 : decode cX3_forget 75 = .ok (.iinc 4 1, 3) := by decide +kernel
theorem dX3_forget_78 : decode cX3_forget 78 = .ok (.goto (-71), 3) := by decide +kernel
theorem dX3_forget_81 : decode cX3_forget 81 = .ok (.aload_n 0, 1) := by decide +kernel
theorem dX3_forget_82 : decode cX3_forget 82 = .ok (.iload_n 3, 1) := by decide +kernel
theorem dX3_forget_83 : decode cX3_forget 83 = .ok (.putfield 27, 3) := by decide +kernel
theorem dX3_forget_86 : decode cX3_forget 86 = .ok (.aload_n 0, 1) := by decide +kernel
theorem dX3_forget_87 : decode cX3_forget 87 = .ok (.iload_n 2, 1) := by decide +kernel
theorem dX3_forget_88 : decode cX3_forget 88 = .ok (.putfield 30, 3) := by decide +kernel
theorem dX3_forget_91 : decode cX3_forget 91 = .ok (.return_, 1) := by decide +kernel
theorem dX3_actAt_0 : decode cX3_actAt 0 = .ok (.iload_n 1, 1) := by decide +kernel
theorem dX3_actAt_1 : decode cX3_actAt 1 = .ok (.ifCond .lt 29, 3) := by decide +kernel
theorem dX3_actAt_4 : decode cX3_actAt 4 = .ok (.iload_n 1, 1) := by decide +kernel
theorem dX3_actAt_5 : decode cX3_actAt 5 = .ok (.aload_n 0, 1) := by decide +kernel
theorem dX3_actAt_6 : decode cX3_actAt 6 = .ok (.getfield 27, 3) := by decide +kernel
theorem dX3_actAt_9 : decode cX3_actAt 9 = .ok (.if_icmp .ge 21, 3) := by decide +kernel
theorem dX3_actAt_12 : decode cX3_actAt 12 = .ok (.iload_n 1, 1) := by decide +kernel
theorem dX3_actAt_13 : decode cX3_actAt 13 = .ok (.aload_n 0, 1) := by decide +kernel
theorem dX3_actAt_14 : decode cX3_actAt 14 = .ok (.getfield 23, 3) := by decide +kernel
theorem dX3_actAt_17 : decode cX3_actAt 17 = .ok (.arraylength, 1) := by decide +kernel
theorem dX3_actAt_18 : decode cX3_actAt 18 = .ok (.if_icmp .ge 12, 3) := by decide +kernel
theorem dX3_actAt_21 : decode cX3_actAt 21 = .ok (.aload_n 0, 1) := by decide +kernel
theorem dX3_actAt_22 : decode cX3_actAt 22 = .ok (.getfield 23, 3) := by decide +kernel
theorem dX3_actAt_25 : decode cX3_actAt 25 = .ok (.iload_n 1, 1) := by decide +kernel
theorem dX3_actAt_26 : decode cX3_actAt 26 = .ok (.aaload, 1) := by decide +kernel
theorem dX3_actAt_27 : decode cX3_actAt 27 = .ok (.goto 4, 3) := by decide +kernel
theorem dX3_actAt_30 : decode cX3_actAt 30 = .ok (.aconst_null, 1) := by decide +kernel
theorem dX3_actAt_31 : decode cX3_actAt 31 = .ok (.areturn, 1) := by decide +kernel
theorem dX3_takeBackLatest_0 : decode cX3_takeBackLatest 0 = .ok (.aload_n 0, 1) := by decide +kernel
theorem dX3_takeBackLatest_1 : decode cX3_takeBackLatest 1 = .ok (.aload_n 0, 1) := by decide +kernel
theorem dX3_takeBackLatest_2 : decode cX3_takeBackLatest 2 = .ok (.getfield 27, 3) := by decide +kernel
theorem dX3_takeBackLatest_5 : decode cX3_takeBackLatest 5 = .ok (.iconst 1, 1) := by decide +kernel
theorem dX3_takeBackLatest_6 : decode cX3_takeBackLatest 6 = .ok (.isub, 1) := by decide +kernel
theorem dX3_takeBackLatest_7 : decode cX3_takeBackLatest 7 = .ok (.invokevirtual 76, 3) := by decide +kernel
theorem dX3_takeBackLatest_10 : decode cX3_takeBackLatest 10 = .ok (.astore_n 1, 1) := by decide +kernel
theorem dX3_takeBackLatest_11 : decode cX3_takeBackLatest 11 = .ok (.aload_n 1, 1) := by decide +kernel
theorem dX3_takeBackLatest_12 : decode cX3_takeBackLatest 12 = .ok (.ifnonnull 6, 3) := by decide +kernel
theorem dX3_takeBackLatest_15 : decode cX3_takeBackLatest 15 = .ok (.bipush (-3), 2) := by decide +kernel
theorem dX3_takeBackLatest_17 : decode cX3_takeBackLatest 17 = .ok (.ireturn, 1) := by decide +kernel
theorem dX3_takeBackLatest_18 : decode cX3_takeBackLatest 18 = .ok (.aload_n 1, 1) := by decide +kernel
theorem dX3_takeBackLatest_19 : decode cX3_takeBackLatest 19 = .ok (.invokevirtual 80, 3) := by decide +kernel
theorem dX3_takeBackLatest_22 : decode cX3_takeBackLatest 22 = .ok (.aload_n 0, 1) := by decide +kernel
theorem dX3_takeBackLatest_23 : decode cX3_takeBackLatest 23 = .ok (.dup, 1) := by decide +kernel
theorem dX3_takeBackLatest_24 : decode cX3_takeBackLatest 24 = .ok (.getfield 27, 3) := by decide +kernel
theorem dX3_takeBackLatest_27 : decode cX3_takeBackLatest 27 = .ok (.iconst 1, 1) := by decide +kernel
theorem dX3_takeBackLatest_28 : decode cX3_takeBackLatest 28 = .ok (.isub, 1) := by decide +kernel
theorem dX3_takeBackLatest_29 : decode cX3_takeBackLatest 29 = .ok (.putfield 27, 3) := by decide +kernel
theorem dX3_takeBackLatest_32 : decode cX3_takeBackLatest 32 = .ok (.aload_n 1, 1) := by decide +kernel
theorem dX3_takeBackLatest_33 : decode cX3_takeBackLatest 33 = .ok (.invokevirtual 81, 3) := by decide +kernel
theorem dX3_takeBackLatest_36 : decode cX3_takeBackLatest 36 = .ok (.ireturn, 1) := by decide +kernel
theorem dX3_doLatestAgain_0 : decode cX3_doLatestAgain 0 = .ok (.aload_n 0, 1) := by decide +kernel
theorem dX3_doLatestAgain_1 : decode cX3_doLatestAgain 1 = .ok (.getfield 27, 3) := by decide +kernel
theorem dX3_doLatestAgain_4 : decode cX3_doLatestAgain 4 = .ok (.ifCond .lt 26, 3) := by decide +kernel
theorem dX3_doLatestAgain_7 : decode cX3_doLatestAgain 7 = .ok (.aload_n 0, 1) := by decide +kernel
theorem dX3_doLatestAgain_8 : decode cX3_doLatestAgain 8 = .ok (.getfield 27, 3) := by decide +kernel
theorem dX3_doLatestAgain_11 : decode cX3_doLatestAgain 11 = .ok (.aload_n 0, 1) := by decide +kernel
theorem dX3_doLatestAgain_12 : decode cX3_doLatestAgain 12 = .ok (.getfield 30, 3) := by decide +kernel
theorem dX3_doLatestAgain_15 : decode cX3_doLatestAgain 15 = .ok (.if_icmp .ge 15, 3) := by decide +kernel
theorem dX3_doLatestAgain_18 : decode cX3_doLatestAgain 18 = .ok (.aload_n 0, 1) := by decide +kernel
theorem dX3_doLatestAgain_19 : decode cX3_doLatestAgain 19 = .ok (.getfield 27, 3) := by decide +kernel
theorem dX3_doLatestAgain_22 : decode cX3_doLatestAgain 22 = .ok (.aload_n 0, 1) := by decide +kernel
theorem dX3_doLatestAgain_23 : decode cX3_doLatestAgain 23 = .ok (.getfield 23, 3) := by decide +kernel
theorem dX3_doLatestAgain_26 : decode cX3_doLatestAgain 26 = .ok (.arraylength, 1) := by decide +kernel
theorem dX3_doLatestAgain_27 : decode cX3_doLatestAgain 27 = .ok (.if_icmp .lt 6, 3) := by decide +kernel
theorem dX3_doLatestAgain_30 : decode cX3_doLatestAgain 30 = .ok (.bipush (-3), 2) := by decide +kernel
theorem dX3_doLatestAgain_32 : decode cX3_doLatestAgain 32 = .ok (.ireturn, 1) := by decide +kernel
theorem dX3_doLatestAgain_33 : decode cX3_doLatestAgain 33 = .ok (.aload_n 0, 1) := by decide +kernel
theorem dX3_doLatestAgain_34 : decode cX3_doLatestAgain 34 = .ok (.getfield 23, 3) := by decide +kernel
theorem dX3_doLatestAgain_37 : decode cX3_doLatestAgain 37 = .ok (.aload_n 0, 1) := by decide +kernel
theorem dX3_doLatestAgain_38 : decode cX3_doLatestAgain 38 = .ok (.getfield 27, 3) := by decide +kernel
theorem dX3_doLatestAgain_41 : decode cX3_doLatestAgain 41 = .ok (.aaload, 1) := by decide +kernel
theorem dX3_doLatestAgain_42 : decode cX3_doLatestAgain 42 = .ok (.astore_n 1, 1) := by decide +kernel
theorem dX3_doLatestAgain_43 : decode cX3_doLatestAgain 43 = .ok (.aload_n 1, 1) := by decide +kernel
theorem dX3_doLatestAgain_44 : decode cX3_doLatestAgain 44 = .ok (.ifnonnull 6, 3) := by decide +kernel
theorem dX3_doLatestAgain_47 : decode cX3_doLatestAgain 47 = .ok (.bipush (-3), 2) := by decide +kernel
theorem dX3_doLatestAgain_49 : decode cX3_doLatestAgain 49 = .ok (.ireturn, 1) := by decide +kernel
theorem dX3_doLatestAgain_50 : decode cX3_doLatestAgain 50 = .ok (.aload_n 1, 1) := by decide +kernel
theorem dX3_doLatestAgain_51 : decode cX3_doLatestAgain 51 = .ok (.invokevirtual 85, 3) := by decide +kernel
theorem dX3_doLatestAgain_54 : decode cX3_doLatestAgain 54 = .ok (.aload_n 0, 1) := by decide +kernel
theorem dX3_doLatestAgain_55 : decode cX3_doLatestAgain 55 = .ok (.dup, 1) := by decide +kernel
theorem dX3_doLatestAgain_56 : decode cX3_doLatestAgain 56 = .ok (.getfield 27, 3) := by decide +kernel
theorem dX3_doLatestAgain_59 : decode cX3_doLatestAgain 59 = .ok (.iconst 1, 1) := by decide +kernel
theorem dX3_doLatestAgain_60 : decode cX3_doLatestAgain 60 = .ok (.iadd, 1) := by decide +kernel
theorem dX3_doLatestAgain_61 : decode cX3_doLatestAgain 61 = .ok (.putfield 27, 3) := by decide +kernel
theorem dX3_doLatestAgain_64 : decode cX3_doLatestAgain 64 = .ok (.aload_n 1, 1) := by decide +kernel
theorem dX3_doLatestAgain_65 : decode cX3_doLatestAgain 65 = .ok (.invokevirtual 81, 3) := by decide +kernel
theorem dX3_doLatestAgain_68 : decode cX3_doLatestAgain 68 = .ok (.ireturn, 1) := by decide +kernel
theorem dX4_mayBeViewed_0 : decode cX4_mayBeViewed 0 = .ok (.iload_n 0, 1) := by decide +kernel
theorem dX4_mayBeViewed_1 : decode cX4_mayBeViewed 1 = .ok (.ifCond .lt 23, 3) := by decide +kernel
theorem dX4_mayBeViewed_4 : decode cX4_mayBeViewed 4 = .ok (.iload_n 0, 1) := by decide +kernel
theorem dX4_mayBeViewed_5 : decode cX4_mayBeViewed 5 = .ok (.getstatic 11, 3) := by decide +kernel
theorem dX4_mayBeViewed_8 : decode cX4_mayBeViewed 8 = .ok (.arraylength, 1) := by decide +kernel
theorem dX4_mayBeViewed_9 : decode cX4_mayBeViewed 9 = .ok (.if_icmp .ge 15, 3) := by decide +kernel
theorem dX4_mayBeViewed_12 : decode cX4_mayBeViewed 12 = .ok (.iload_n 1, 1) := by decide +kernel
theorem dX4_mayBeViewed_13 : decode cX4_mayBeViewed 13 = .ok (.ifCond .lt 11, 3) := by decide +kernel
theorem dX4_mayBeViewed_16 : decode cX4_mayBeViewed 16 = .ok (.iload_n 1, 1) := by decide +kernel
theorem dX4_mayBeViewed_17 : decode cX4_mayBeViewed 17 = .ok (.getstatic 11, 3) := by decide +kernel
theorem dX4_mayBeViewed_20 : decode cX4_mayBeViewed 20 = .ok (.arraylength, 1) := by decide +kernel
theorem dX4_mayBeViewed_21 : decode cX4_mayBeViewed 21 = .ok (.if_icmp .lt 5, 3) := by decide +kernel
theorem dX4_mayBeViewed_24 : decode cX4_mayBeViewed 24 = .ok (.iconst 0, 1) := by decide +kernel
theorem dX4_mayBeViewed_25 : decode cX4_mayBeViewed 25 = .ok (.ireturn, 1) := by decide +kernel
theorem dX4_mayBeViewed_26 : decode cX4_mayBeViewed 26 = .ok (.getstatic 11, 3) := by decide +kernel
theorem dX4_mayBeViewed_29 : decode cX4_mayBeViewed 29 = .ok (.iload_n 0, 1) := by decide +kernel
theorem dX4_mayBeViewed_30 : decode cX4_mayBeViewed 30 = .ok (.iaload, 1) := by decide +kernel
theorem dX4_mayBeViewed_31 : decode cX4_mayBeViewed 31 = .ok (.iload_n 1, 1) := by decide +kernel
theorem dX4_mayBeViewed_32 : decode cX4_mayBeViewed 32 = .ok (.ishr, 1) := by decide +kernel
theorem dX4_mayBeViewed_33 : decode cX4_mayBeViewed 33 = .ok (.iconst 1, 1) := by decide +kernel
theorem dX4_mayBeViewed_34 : decode cX4_mayBeViewed 34 = .ok (.iand, 1) := by decide +kernel
theorem dX4_mayBeViewed_35 : decode cX4_mayBeViewed 35 = .ok (.iconst 1, 1) := by decide +kernel
theorem dX4_mayBeViewed_36 : decode cX4_mayBeViewed 36 = .ok (.if_icmp .ne 7, 3) := by decide +kernel
theorem dX4_mayBeViewed_39 : decode cX4_mayBeViewed 39 = .ok (.iconst 1, 1) := by decide +kernel
theorem dX4_mayBeViewed_40 : decode cX4_mayBeViewed 40 = .ok (.goto 4, 3) := by decide +kernel
theorem dX4_mayBeViewed_43 : decode cX4_mayBeViewed 43 = .ok (.iconst 0, 1) := by decide +kernel
theorem dX4_mayBeViewed_44 : decode cX4_mayBeViewed 44 = .ok (.ireturn, 1) := by decide +kernel
theorem dX4_viewed_0 : decode cX4_viewed 0 = .ok (.iload_n 3, 1) := by decide +kernel
theorem dX4_viewed_1 : decode cX4_viewed 1 = .ok (.iload_n 0, 1) := by decide +kernel
theorem dX4_viewed_2 : decode cX4_viewed 2 = .ok (.if_icmp .eq 9, 3) := by decide +kernel
theorem dX4_viewed_5 : decode cX4_viewed 5 = .ok (.iload_n 3, 1) := by decide +kernel
theorem dX4_viewed_6 : decode cX4_viewed 6 = .ok (.bipush 6, 2) := by decide +kernel
theorem dX4_viewed_8 : decode cX4_viewed 8 = .ok (.if_icmp .ge 5, 3) := by decide +kernel
theorem dX4_viewed_11 : decode cX4_viewed 11 = .ok (.lload_n 1, 1) := by decide +kernel
theorem dX4_viewed_12 : decode cX4_viewed 12 = .ok (.lreturn, 1) := by decide +kernel
theorem dX4_viewed_13 : decode cX4_viewed 13 = .ok (.iload_n 3, 1) := by decide +kernel
theorem dX4_viewed_14 : decode cX4_viewed 14 = .ok (.bipush 6, 2) := by decide +kernel
theorem dX4_viewed_16 : decode cX4_viewed 16 = .ok (.if_icmp .ne 13, 3) := by decide +kernel
theorem dX4_viewed_19 : decode cX4_viewed 19 = .ok (.lload_n 1, 1) := by decide +kernel
theorem dX4_viewed_20 : decode cX4_viewed 20 = .ok (.l2f, 1) := by decide +kernel
theorem dX4_viewed_21 : decode cX4_viewed 21 = .ok (.f2d, 1) := by decide +kernel
theorem dX4_viewed_22 : decode cX4_viewed 22 = .ok (.invokestatic 15, 3) := by decide +kernel
theorem dX4_viewed_25 : decode cX4_viewed 25 = .ok (.invokestatic 19, 3) := by decide +kernel
theorem dX4_viewed_28 : decode cX4_viewed 28 = .ok (.lreturn, 1) := by decide +kernel
theorem dX4_viewed_29 : decode cX4_viewed 29 = .ok (.iload_n 0, 1) := by decide +kernel
theorem dX4_viewed_30 : decode cX4_viewed 30 = .ok (.bipush 6, 2) := by decide +kernel
theorem dX4_viewed_32 : decode cX4_viewed 32 = .ok (.if_icmp .ne 10, 3) := by decide +kernel
theorem dX4_viewed_35 : decode cX4_viewed 35 = .ok (.lload_n 1, 1) := by decide +kernel
theorem dX4_viewed_36 : decode cX4_viewed 36 = .ok (.invokestatic 23, 3) := by decide +kernel
theorem dX4_viewed_39 : decode cX4_viewed 39 = .ok (.goto 8, 3) := by decide +kernel
theorem dX4_viewed_42 : decode cX4_viewed 42 = .ok (.lload_n 1, 1) := by decide +kernel
theorem dX4_viewed_43 : decode cX4_viewed 43 = .ok (.l2d, 1) := by decide +kernel
theorem dX4_viewed_44 : decode cX4_viewed 44 = .ok (.invokestatic 15, 3) := by decide +kernel
theorem dX4_viewed_47 : decode cX4_viewed 47 = .ok (.lreturn, 1) := by decide +kernel
theorem dX4_numberBy_0 : decode cX4_numberBy 0 = .ok (.iload_n 0, 1) := by decide +kernel
theorem dX4_numberBy_1 : decode cX4_numberBy 1 = .ok (.tableswitch 108 0 9 #[55, 67, 72, 77, 82, 108, 86, 96, 102, 104], 55) := by decide +kernel
theorem dX4_numberBy_56 : decode cX4_numberBy 56 = .ok (.lload_n 1, 1) := by decide +kernel
theorem dX4_numberBy_57 : decode cX4_numberBy 57 = .ok (.lconst 0, 1) := by decide +kernel
theorem dX4_numberBy_58 : decode cX4_numberBy 58 = .ok (.lcmp, 1) := by decide +kernel
theorem dX4_numberBy_59 : decode cX4_numberBy 59 = .ok (.ifCond .eq 7, 3) := by decide +kernel
theorem dX4_numberBy_62 : decode cX4_numberBy 62 = .ok (.lconst 1, 1) := by decide +kernel
theorem dX4_numberBy_63 : decode cX4_numberBy 63 = .ok (.goto 4, 3) := by decide +kernel
theorem dX4_numberBy_66 : decode cX4_numberBy 66 = .ok (.lconst 0, 1) := by decide +kernel
theorem dX4_numberBy_67 : decode cX4_numberBy 67 = .ok (.lreturn, 1) := by decide +kernel
theorem dX4_numberBy_68 : decode cX4_numberBy 68 = .ok (.lload_n 1, 1) := by decide +kernel
theorem dX4_numberBy_69 : decode cX4_numberBy 69 = .ok (.l2i, 1) := by decide +kernel
theorem dX4_numberBy_70 : decode cX4_numberBy 70 = .ok (.i2b, 1) := by decide +kernel
theorem dX4_numberBy_71 : decode cX4_numberBy 71 = .ok (.i2l, 1) := by decide +kernel
theorem dX4_numberBy_72 : decode cX4_numberBy 72 = .ok (.lreturn, 1) := by decide +kernel
theorem dX4_numberBy_73 : decode cX4_numberBy 73 = .ok (.lload_n 1, 1) := by decide +kernel
theorem dX4_numberBy_74 : decode cX4_numberBy 74 = .ok (.l2i, 1) := by decide +kernel
theorem dX4_numberBy_75 : decode cX4_numberBy 75 = .ok (.i2c, 1) := by decide +kernel
theorem dX4_numberBy_76 : decode cX4_numberBy 76 = .ok (.i2l, 1) := by decide +kernel
theorem dX4_numberBy_77 : decode cX4_numberBy 77 = .ok (.lreturn, 1) := by decide +kernel
theorem dX4_numberBy_78 : decode cX4_numberBy 78 = .ok (.lload_n 1, 1) := by decide +kernel
theorem dX4_numberBy_79 : decode cX4_numberBy 79 = .ok (.l2i, 1) := by decide +kernel
theorem dX4_numberBy_80 : decode cX4_numberBy 80 = .ok (.i2s, 1) := by decide +kernel
theorem dX4_numberBy_81 : decode cX4_numberBy 81 = .ok (.i2l, 1) := by decide +kernel
theorem dX4_numberBy_82 : decode cX4_numberBy 82 = .ok (.lreturn, 1) := by decide +kernel
theorem dX4_numberBy_83 : decode cX4_numberBy 83 = .ok (.lload_n 1, 1) := by decide +kernel
theorem dX4_numberBy_84 : decode cX4_numberBy 84 = .ok (.l2i, 1) := by decide +kernel
theorem dX4_numberBy_85 : decode cX4_numberBy 85 = .ok (.i2l, 1) := by decide +kernel
theorem dX4_numberBy_86 : decode cX4_numberBy 86 = .ok (.lreturn, 1) := by decide +kernel
theorem dX4_numberBy_87 : decode cX4_numberBy 87 = .ok (.lload_n 1, 1) := by decide +kernel
theorem dX4_numberBy_88 : decode cX4_numberBy 88 = .ok (.l2f, 1) := by decide +kernel
theorem dX4_numberBy_89 : decode cX4_numberBy 89 = .ok (.f2d, 1) := by decide +kernel
theorem dX4_numberBy_90 : decode cX4_numberBy 90 = .ok (.invokestatic 15, 3) := by decide +kernel
theorem dX4_numberBy_93 : decode cX4_numberBy 93 = .ok (.invokestatic 19, 3) := by decide +kernel
theorem dX4_numberBy_96 : decode cX4_numberBy 96 = .ok (.lreturn, 1) := by decide +kernel
theorem dX4_numberBy_97 : decode cX4_numberBy 97 = .ok (.lload_n 1, 1) := by decide +kernel
theorem dX4_numberBy_98 : decode cX4_numberBy 98 = .ok (.l2d, 1) := by decide +kernel
theorem dX4_numberBy_99 : decode cX4_numberBy 99 = .ok (.invokestatic 15, 3) := by decide +kernel
theorem dX4_numberBy_102 : decode cX4_numberBy 102 = .ok (.lreturn, 1) := by decide +kernel
theorem dX4_numberBy_103 : decode cX4_numberBy 103 = .ok (.lconst 0, 1) := by decide +kernel
theorem dX4_numberBy_104 : decode cX4_numberBy 104 = .ok (.lreturn, 1) := by decide +kernel
theorem dX4_numberBy_105 : decode cX4_numberBy 105 = .ok (.lload_n 1, 1) := by decide +kernel
theorem dX4_numberBy_106 : decode cX4_numberBy 106 = .ok (.l2i, 1) := by decide +kernel
theorem dX4_numberBy_107 : decode cX4_numberBy 107 = .ok (.i2l, 1) := by decide +kernel
theorem dX4_numberBy_108 : decode cX4_numberBy 108 = .ok (.lreturn, 1) := by decide +kernel
theorem dX4_numberBy_109 : decode cX4_numberBy 109 = .ok (.lload_n 1, 1) := by decide +kernel
theorem dX4_numberBy_110 : decode cX4_numberBy 110 = .ok (.lreturn, 1) := by decide +kernel
theorem dX4_quotient_0 : decode cX4_quotient 0 = .ok (.iload_n 1, 1) := by decide +kernel
theorem dX4_quotient_1 : decode cX4_quotient 1 = .ok (.ifCond .eq 7, 3) := by decide +kernel
theorem dX4_quotient_4 : decode cX4_quotient 4 = .ok (.iload_n 2, 1) := by decide +kernel
theorem dX4_quotient_5 : decode cX4_quotient 5 = .ok (.ifCond .ne 17, 3) := by decide +kernel
theorem dX4_quotient_8 : decode cX4_quotient 8 = .ok (.iload_n 0, 1) := by decide +kernel
theorem dX4_quotient_9 : decode cX4_quotient 9 = .ok (.iload_n 2, 1) := by decide +kernel
theorem dX4_quotient_10 : decode cX4_quotient 10 = .ok (.ifCond .ge 7, 3) := by decide +kernel
theorem dX4_quotient_13 : decode cX4_quotient 13 = .ok (.iconst 1, 1) := by decide +kernel
theorem dX4_quotient_14 : decode cX4_quotient 14 = .ok (.goto 4, 3) := by decide +kernel
theorem dX4_quotient_17 : decode cX4_quotient 17 = .ok (.iconst 0, 1) := by decide +kernel
theorem dX4_quotient_18 : decode cX4_quotient 18 = .ok (.invokestatic 26, 3) := by decide +kernel
theorem dX4_quotient_21 : decode cX4_quotient 21 = .ok (.lreturn, 1) := by decide +kernel
theorem dX4_quotient_22 : decode cX4_quotient 22 = .ok (.iload_n 0, 1) := by decide +kernel
theorem dX4_quotient_23 : decode cX4_quotient 23 = .ok (.bipush 6, 2) := by decide +kernel
theorem dX4_quotient_25 : decode cX4_quotient 25 = .ok (.if_icmp .ne 16, 3) := by decide +kernel
theorem dX4_quotient_28 : decode cX4_quotient 28 = .ok (.iload_n 1, 1) := by decide +kernel
theorem dX4_quotient_29 : decode cX4_quotient 29 = .ok (.i2f, 1) := by decide +kernel
theorem dX4_quotient_30 : decode cX4_quotient 30 = .ok (.iload_n 2, 1) := by decide +kernel
theorem dX4_quotient_31 : decode cX4_quotient 31 = .ok (.i2f, 1) := by decide +kernel
theorem dX4_quotient_32 : decode cX4_quotient 32 = .ok (.fdiv, 1) := by decide +kernel
theorem dX4_quotient_33 : decode cX4_quotient 33 = .ok (.f2d, 1) := by decide +kernel
theorem dX4_quotient_34 : decode cX4_quotient 34 = .ok (.invokestatic 15, 3) := by decide +kernel
theorem dX4_quotient_37 : decode cX4_quotient 37 = .ok (.invokestatic 19, 3) := by decide +kernel
theorem dX4_quotient_40 : decode cX4_quotient 40 = .ok (.lreturn, 1) := by decide +kernel
theorem dX4_quotient_41 : decode cX4_quotient 41 = .ok (.iload_n 1, 1) := by decide +kernel
theorem dX4_quotient_42 : decode cX4_quotient 42 = .ok (.i2d, 1) := by decide +kernel
theorem dX4_quotient_43 : decode cX4_quotient 43 = .ok (.iload_n 2, 1) := by decide +kernel
theorem dX4_quotient_44 : decode cX4_quotient 44 = .ok (.i2d, 1) := by decide +kernel
theorem dX4_quotient_45 : decode cX4_quotient 45 = .ok (.ddiv, 1) := by decide +kernel
theorem dX4_quotient_46 : decode cX4_quotient 46 = .ok (.invokestatic 15, 3) := by decide +kernel
theorem dX4_quotient_49 : decode cX4_quotient 49 = .ok (.lreturn, 1) := by decide +kernel
theorem dX4_hasAmount_0 : decode cX4_hasAmount 0 = .ok (.iload_n 0, 1) := by decide +kernel
theorem dX4_hasAmount_1 : decode cX4_hasAmount 1 = .ok (.ifCond .lt 13, 3) := by decide +kernel
theorem dX4_hasAmount_4 : decode cX4_hasAmount 4 = .ok (.iload_n 0, 1) := by decide +kernel
theorem dX4_hasAmount_5 : decode cX4_hasAmount 5 = .ok (.bipush 7, 2) := by decide +kernel
theorem dX4_hasAmount_7 : decode cX4_hasAmount 7 = .ok (.if_icmp .gt 7, 3) := by decide +kernel
theorem dX4_hasAmount_10 : decode cX4_hasAmount 10 = .ok (.iconst 1, 1) := by decide +kernel
theorem dX4_hasAmount_11 : decode cX4_hasAmount 11 = .ok (.goto 4, 3) := by decide +kernel
theorem dX4_hasAmount_14 : decode cX4_hasAmount 14 = .ok (.iconst 0, 1) := by decide +kernel
theorem dX4_hasAmount_15 : decode cX4_hasAmount 15 = .ok (.ireturn, 1) := by decide +kernel
theorem dX4_amount_0 : decode cX4_amount 0 = .ok (.iload_n 0, 1) := by decide +kernel
theorem dX4_amount_1 : decode cX4_amount 1 = .ok (.bipush 6, 2) := by decide +kernel
theorem dX4_amount_3 : decode cX4_amount 3 = .ok (.if_icmp .eq 9, 3) := by decide +kernel
theorem dX4_amount_6 : decode cX4_amount 6 = .ok (.iload_n 0, 1) := by decide +kernel
theorem dX4_amount_7 : decode cX4_amount 7 = .ok (.bipush 7, 2) := by decide +kernel
theorem dX4_amount_9 : decode cX4_amount 9 = .ok (.if_icmp .ne 12, 3) := by decide +kernel
theorem dX4_amount_12 : decode cX4_amount 12 = .ok (.iload_n 0, 1) := by decide +kernel
theorem dX4_amount_13 : decode cX4_amount 13 = .ok (.lload_n 1, 1) := by decide +kernel
theorem dX4_amount_14 : decode cX4_amount 14 = .ok (.invokestatic 30, 3) := by decide +kernel
theorem dX4_amount_17 : decode cX4_amount 17 = .ok (.invokestatic 34, 3) := by decide +kernel
theorem dX4_amount_20 : decode cX4_amount 20 = .ok (.lreturn, 1) := by decide +kernel
theorem dX4_amount_21 : decode cX4_amount 21 = .ok (.lload_n 1, 1) := by decide +kernel
theorem dX4_amount_22 : decode cX4_amount 22 = .ok (.lreturn, 1) := by decide +kernel
theorem dX4_rank_0 : decode cX4_rank 0 = .ok (.lload_n 1, 1) := by decide +kernel
theorem dX4_rank_1 : decode cX4_rank 1 = .ok (.lconst 0, 1) := by decide +kernel
theorem dX4_rank_2 : decode cX4_rank 2 = .ok (.lcmp, 1) := by decide +kernel
theorem dX4_rank_3 : decode cX4_rank 3 = .ok (.ifCond .ge 16, 3) := by decide +kernel
theorem dX4_rank_6 : decode cX4_rank 6 = .ok (.iload_n 0, 1) := by decide +kernel
theorem dX4_rank_7 : decode cX4_rank 7 = .ok (.bipush 6, 2) := by decide +kernel
theorem dX4_rank_9 : decode cX4_rank 9 = .ok (.if_icmp .ne 10, 3) := by decide +kernel
theorem dX4_rank_12 : decode cX4_rank 12 = .ok (.lload_n 1, 1) := by decide +kernel
theorem dX4_rank_13 : decode cX4_rank 13 = .ok (.ldc2_w 39, 3) := by decide +kernel
theorem dX4_rank_16 : decode cX4_rank 16 = .ok (.land, 1) := by decide +kernel
theorem dX4_rank_17 : decode cX4_rank 17 = .ok (.lneg, 1) := by decide +kernel
theorem dX4_rank_18 : decode cX4_rank 18 = .ok (.lreturn, 1) := by decide +kernel
theorem dX4_rank_19 : decode cX4_rank 19 = .ok (.lload_n 1, 1) := by decide +kernel
theorem dX4_rank_20 : decode cX4_rank 20 = .ok (.lconst 0, 1) := by decide +kernel
theorem dX4_rank_21 : decode cX4_rank 21 = .ok (.lcmp, 1) := by decide +kernel
theorem dX4_rank_22 : decode cX4_rank 22 = .ok (.ifCond .ge 16, 3) := by decide +kernel
theorem dX4_rank_25 : decode cX4_rank 25 = .ok (.iload_n 0, 1) := by decide +kernel
theorem dX4_rank_26 : decode cX4_rank 26 = .ok (.bipush 7, 2) := by decide +kernel
theorem dX4_rank_28 : decode cX4_rank 28 = .ok (.if_icmp .ne 10, 3) := by decide +kernel
theorem dX4_rank_31 : decode cX4_rank 31 = .ok (.lload_n 1, 1) := by decide +kernel
theorem dX4_rank_32 : decode cX4_rank 32 = .ok (.ldc2_w 43, 3) := by decide +kernel
theorem dX4_rank_35 : decode cX4_rank 35 = .ok (.land, 1) := by decide +kernel
theorem dX4_rank_36 : decode cX4_rank 36 = .ok (.lneg, 1) := by decide +kernel
theorem dX4_rank_37 : decode cX4_rank 37 = .ok (.lreturn, 1) := by decide +kernel
theorem dX4_rank_38 : decode cX4_rank 38 = .ok (.lload_n 1, 1) := by decide +kernel
theorem dX4_rank_39 : decode cX4_rank 39 = .ok (.lreturn, 1) := by decide +kernel
theorem dX4_areAlike_0 : decode cX4_areAlike 0 = .ok (.aload_n 0, 1) := by decide +kernel
theorem dX4_areAlike_1 : decode cX4_areAlike 1 = .ok (.getfield 45, 3) := by decide +kernel
theorem dX4_areAlike_4 : decode cX4_areAlike 4 = .ok (.invokestatic 51, 3) := by decide +kernel
theorem dX4_areAlike_7 : decode cX4_areAlike 7 = .ok (.ifCond .eq 17, 3) := by decide +kernel
theorem dX4_areAlike_10 : decode cX4_areAlike 10 = .ok (.aload_n 1, 1) := by decide +kernel
theorem dX4_areAlike_11 : decode cX4_areAlike 11 = .ok (.getfield 45, 3) := by decide +kernel
theorem dX4_areAlike_14 : decode cX4_areAlike 14 = .ok (.invokestatic 51, 3) := by decide +kernel
theorem dX4_areAlike_17 : decode cX4_areAlike 17 = .ok (.ifCond .eq 7, 3) := by decide +kernel
theorem dX4_areAlike_20 : decode cX4_areAlike 20 = .ok (.iconst 1, 1) := by decide +kernel
theorem dX4_areAlike_21 : decode cX4_areAlike 21 = .ok (.goto 4, 3) := by decide +kernel
theorem dX4_areAlike_24 : decode cX4_areAlike 24 = .ok (.iconst 0, 1) := by decide +kernel
theorem dX4_areAlike_25 : decode cX4_areAlike 25 = .ok (.istore_n 2, 1) := by decide +kernel
theorem dX4_areAlike_26 : decode cX4_areAlike 26 = .ok (.iload_n 2, 1) := by decide +kernel
theorem dX4_areAlike_27 : decode cX4_areAlike 27 = .ok (.ifCond .ne 32, 3) := by decide +kernel
theorem dX4_areAlike_30 : decode cX4_areAlike 30 = .ok (.aload_n 0, 1) := by decide +kernel
theorem dX4_areAlike_31 : decode cX4_areAlike 31 = .ok (.getfield 45, 3) := by decide +kernel
theorem dX4_areAlike_34 : decode cX4_areAlike 34 = .ok (.aload_n 1, 1) := by decide +kernel
theorem dX4_areAlike_35 : decode cX4_areAlike 35 = .ok (.getfield 45, 3) := by decide +kernel
theorem dX4_areAlike_38 : decode cX4_areAlike 38 = .ok (.if_icmp .ne 19, 3) := by decide +kernel

theorem d_Fl_at_0 : decode prog_5_method_6_code 0 = .ok (.iload_n 1, 1) := by decide +kernel
theorem d_Fl_at_1 : decode prog_5_method_6_code 1 = .ok (.ifCond .lt 20, 3) := by decide +kernel
theorem d_Fl_at_4 : decode prog_5_method_6_code 4 = .ok (.iload_n 1, 1) := by decide +kernel
theorem d_Fl_at_5 : decode prog_5_method_6_code 5 = .ok (.aload_n 0, 1) := by decide +kernel
theorem d_Fl_at_6 : decode prog_5_method_6_code 6 = .ok (.getfield 15, 3) := by decide +kernel
theorem d_Fl_at_9 : decode prog_5_method_6_code 9 = .ok (.if_icmp .ge 12, 3) := by decide +kernel
theorem d_Fl_at_12 : decode prog_5_method_6_code 12 = .ok (.aload_n 0, 1) := by decide +kernel
theorem d_Fl_at_13 : decode prog_5_method_6_code 13 = .ok (.getfield 9, 3) := by decide +kernel
theorem d_Fl_at_16 : decode prog_5_method_6_code 16 = .ok (.iload_n 1, 1) := by decide +kernel
theorem d_Fl_at_17 : decode prog_5_method_6_code 17 = .ok (.iaload, 1) := by decide +kernel
theorem d_Fl_at_18 : decode prog_5_method_6_code 18 = .ok (.goto 5, 3) := by decide +kernel
theorem d_Fl_at_21 : decode prog_5_method_6_code 21 = .ok (.bipush (-2), 2) := by decide +kernel
theorem d_Fl_at_23 : decode prog_5_method_6_code 23 = .ok (.ireturn, 1) := by decide +kernel
theorem d_Fl_bringToFront_0 : decode prog_5_method_7_code 0 = .ok (.iload_n 1, 1) := by decide +kernel
theorem d_Fl_bringToFront_1 : decode prog_5_method_7_code 1 = .ok (.ifCond .lt 11, 3) := by decide +kernel
theorem d_Fl_bringToFront_4 : decode prog_5_method_7_code 4 = .ok (.iload_n 1, 1) := by decide +kernel
theorem d_Fl_bringToFront_5 : decode prog_5_method_7_code 5 = .ok (.aload_n 0, 1) := by decide +kernel
theorem d_Fl_bringToFront_6 : decode prog_5_method_7_code 6 = .ok (.getfield 15, 3) := by decide +kernel
theorem d_Fl_bringToFront_9 : decode prog_5_method_7_code 9 = .ok (.if_icmp .lt 4, 3) := by decide +kernel
theorem d_Fl_bringToFront_12 : decode prog_5_method_7_code 12 = .ok (.return_, 1) := by decide +kernel
theorem d_Fl_bringToFront_13 : decode prog_5_method_7_code 13 = .ok (.aload_n 0, 1) := by decide +kernel
theorem d_Fl_bringToFront_14 : decode prog_5_method_7_code 14 = .ok (.getfield 9, 3) := by decide +kernel
theorem d_Fl_bringToFront_17 : decode prog_5_method_7_code 17 = .ok (.iload_n 1, 1) := by decide +kernel
theorem d_Fl_bringToFront_18 : decode prog_5_method_7_code 18 = .ok (.iaload, 1) := by decide +kernel
theorem d_Fl_bringToFront_19 : decode prog_5_method_7_code 19 = .ok (.istore_n 2, 1) := by decide +kernel
theorem d_Fl_bringToFront_20 : decode prog_5_method_7_code 20 = .ok (.iload_n 1, 1) := by decide +kernel
theorem d_Fl_bringToFront_21 : decode prog_5_method_7_code 21 = .ok (.istore_n 3, 1) := by decide +kernel
theorem d_Fl_bringToFront_22 : decode prog_5_method_7_code 22 = .ok (.iload_n 3, 1) := by decide +kernel
theorem d_Fl_bringToFront_23 : decode prog_5_method_7_code 23 = .ok (.ifCond .le 23, 3) := by decide +kernel
theorem d_Fl_bringToFront_26 : decode prog_5_method_7_code 26 = .ok (.aload_n 0, 1) := by decide +kernel
theorem d_Fl_bringToFront_27 : decode prog_5_method_7_code 27 = .ok (.getfield 9, 3) := by decide +kernel
theorem d_Fl_bringToFront_30 : decode prog_5_method_7_code 30 = .ok (.iload_n 3, 1) := by decide +kernel
theorem d_Fl_bringToFront_31 : decode prog_5_method_7_code 31 = .ok (.aload_n 0, 1) := by decide +kernel
theorem d_Fl_bringToFront_32 : decode prog_5_method_7_code 32 = .ok (.getfield 9, 3) := by decide +kernel
theorem d_Fl_bringToFront_35 : decode prog_5_method_7_code 35 = .ok (.iload_n 3, 1) := by decide +kernel
theorem d_Fl_bringToFront_36 : decode prog_5_method_7_code 36 = .ok (.iconst 1, 1) := by decide +kernel
theorem d_Fl_bringToFront_37 : decode prog_5_method_7_code 37 = .ok (.isub, 1) := by decide +kernel
theorem d_Fl_bringToFront_38 : decode prog_5_method_7_code 38 = .ok (.iaload, 1) := by decide +kernel
theorem d_Fl_bringToFront_39 : decode prog_5_method_7_code 39 = .ok (.iastore, 1) := by decide +kernel
theorem d_Fl_bringToFront_40 : decode prog_5_method_7_code 40 = .ok (.iinc 3 (-1), 3) := by decide +kernel
theorem d_Fl_bringToFront_43 : decode prog_5_method_7_code 43 = .ok (.goto (-21), 3) := by decide +kernel
theorem d_Fl_bringToFront_46 : decode prog_5_method_7_code 46 = .ok (.aload_n 0, 1) := by decide +kernel
theorem d_Fl_bringToFront_47 : decode prog_5_method_7_code 47 = .ok (.getfield 9, 3) := by decide +kernel
theorem d_Fl_bringToFront_50 : decode prog_5_method_7_code 50 = .ok (.iconst 0, 1) := by decide +kernel
theorem d_Fl_bringToFront_51 : decode prog_5_method_7_code 51 = .ok (.iload_n 2, 1) := by decide +kernel
theorem d_Fl_bringToFront_52 : decode prog_5_method_7_code 52 = .ok (.iastore, 1) := by decide +kernel
theorem d_Fl_bringToFront_53 : decode prog_5_method_7_code 53 = .ok (.return_, 1) := by decide +kernel
theorem d_Jn_init_0 : decode prog_6_method_1_code 0 = .ok (.aload_n 0, 1) := by decide +kernel
theorem d_Jn_init_1 : decode prog_6_method_1_code 1 = .ok (.invokespecial 5, 3) := by decide +kernel
theorem d_Jn_init_4 : decode prog_6_method_1_code 4 = .ok (.aload_n 0, 1) := by decide +kernel
theorem d_Jn_init_5 : decode prog_6_method_1_code 5 = .ok (.sipush 258, 3) := by decide +kernel
theorem d_Jn_init_8 : decode prog_6_method_1_code 8 = .ok (.newarray .int, 2) := by decide +kernel
theorem d_Jn_init_10 : decode prog_6_method_1_code 10 = .ok (.putfield 11, 3) := by decide +kernel
theorem d_Jn_init_13 : decode prog_6_method_1_code 13 = .ok (.aload_n 0, 1) := by decide +kernel
theorem d_Jn_init_14 : decode prog_6_method_1_code 14 = .ok (.sipush 258, 3) := by decide +kernel
theorem d_Jn_init_17 : decode prog_6_method_1_code 17 = .ok (.newarray .int, 2) := by decide +kernel
theorem d_Jn_init_19 : decode prog_6_method_1_code 19 = .ok (.putfield 15, 3) := by decide +kernel
theorem d_Jn_init_22 : decode prog_6_method_1_code 22 = .ok (.aload_n 0, 1) := by decide +kernel
theorem d_Jn_init_23 : decode prog_6_method_1_code 23 = .ok (.sipush 516, 3) := by decide +kernel
theorem d_Jn_init_26 : decode prog_6_method_1_code 26 = .ok (.newarray .int, 2) := by decide +kernel
theorem d_Jn_init_28 : decode prog_6_method_1_code 28 = .ok (.putfield 18, 3) := by decide +kernel
theorem d_Jn_init_31 : decode prog_6_method_1_code 31 = .ok (.aload_n 0, 1) := by decide +kernel
theorem d_Jn_init_32 : decode prog_6_method_1_code 32 = .ok (.sipush 516, 3) := by decide +kernel
theorem d_Jn_init_35 : decode prog_6_method_1_code 35 = .ok (.newarray .int, 2) := by decide +kernel
theorem d_Jn_init_37 : decode prog_6_method_1_code 37 = .ok (.putfield 21, 3) := by decide +kernel
theorem d_Jn_init_40 : decode prog_6_method_1_code 40 = .ok (.return_, 1) := by decide +kernel
theorem d_Jn_findLengths_0 : decode prog_6_method_2_code 0 = .ok (.aload_n 0, 1) := by decide +kernel
theorem d_Jn_findLengths_1 : decode prog_6_method_2_code 1 = .ok (.iconst 0, 1) := by decide +kernel
theorem d_Jn_findLengths_2 : decode prog_6_method_2_code 2 = .ok (.putfield 24, 3) := by decide +kernel
theorem d_Jn_findLengths_5 : decode prog_6_method_2_code 5 = .ok (.iconst 0, 1) := by decide +kernel
theorem d_Jn_findLengths_6 : decode prog_6_method_2_code 6 = .ok (.istore 4, 2) := by decide +kernel
theorem d_Jn_findLengths_8 : decode prog_6_method_2_code 8 = .ok (.iload 4, 2) := by decide +kernel
theorem d_Jn_findLengths_10 : decode prog_6_method_2_code 10 = .ok (.iload_n 2, 1) := by decide +kernel
theorem d_Jn_findLengths_11 : decode prog_6_method_2_code 11 = .ok (.if_icmp .ge 32, 3) := by decide +kernel
theorem d_Jn_findLengths_14 : decode prog_6_method_2_code 14 = .ok (.aload_n 0, 1) := by decide +kernel
theorem d_Jn_findLengths_15 : decode prog_6_method_2_code 15 = .ok (.getfield 15, 3) := by decide +kernel
theorem d_Jn_findLengths_18 : decode prog_6_method_2_code 18 = .ok (.iload 4, 2) := by decide +kernel
theorem d_Jn_findLengths_20 : decode prog_6_method_2_code 20 = .ok (.iload 4, 2) := by decide +kernel
theorem d_Jn_findLengths_22 : decode prog_6_method_2_code 22 = .ok (.iastore, 1) := by decide +kernel
theorem d_Jn_findLengths_23 : decode prog_6_method_2_code 23 = .ok (.aload_n 0, 1) := by decide +kernel
theorem d_Jn_findLengths_24 : decode prog_6_method_2_code 24 = .ok (.aload_n 1, 1) := by decide +kernel
theorem d_Jn_findLengths_25 : decode prog_6_method_2_code 25 = .ok (.iload 4, 2) := by decide +kernel
theorem d_Jn_findLengths_27 : decode prog_6_method_2_code 27 = .ok (.iaload, 1) := by decide +kernel
theorem d_Jn_findLengths_28 : decode prog_6_method_2_code 28 = .ok (.bipush 9, 2) := by decide +kernel
theorem d_Jn_findLengths_30 : decode prog_6_method_2_code 30 = .ok (.ishl, 1) := by decide +kernel
theorem d_Jn_findLengths_31 : decode prog_6_method_2_code 31 = .ok (.iload 4, 2) := by decide +kernel
theorem d_Jn_findLengths_33 : decode prog_6_method_2_code 33 = .ok (.ior, 1) := by decide +kernel
theorem d_Jn_findLengths_34 : decode prog_6_method_2_code 34 = .ok (.invokevirtual 28, 3) := by decide +kernel
theorem d_Jn_findLengths_37 : decode prog_6_method_2_code 37 = .ok (.iinc 4 1, 3) := by decide +kernel
theorem d_Jn_findLengths_40 : decode prog_6_method_2_code 40 = .ok (.goto (-32), 3) := by decide +kernel
theorem d_Jn_findLengths_43 : decode prog_6_method_2_code 43 = .ok (.iload_n 2, 1) := by decide +kernel
theorem d_Jn_findLengths_44 : decode prog_6_method_2_code 44 = .ok (.istore 4, 2) := by decide +kernel
theorem d_Jn_findLengths_46 : decode prog_6_method_2_code 46 = .ok (.iconst 1, 1) := by decide +kernel
theorem d_Jn_findLengths_47 : decode prog_6_method_2_code 47 = .ok (.istore 5, 2) := by decide +kernel
theorem d_Jn_findLengths_49 : decode prog_6_method_2_code 49 = .ok (.iload 5, 2) := by decide +kernel
theorem d_Jn_findLengths_51 : decode prog_6_method_2_code 51 = .ok (.iload_n 2, 1) := by decide +kernel
theorem d_Jn_findLengths_52 : decode prog_6_method_2_code 52 = .ok (.if_icmp .ge 18, 3) := by decide +kernel
theorem d_Jn_findLengths_55 : decode prog_6_method_2_code 55 = .ok (.aload_n 0, 1) := by decide +kernel
theorem d_Jn_findLengths_56 : decode prog_6_method_2_code 56 = .ok (.iload 4, 2) := by decide +kernel
theorem d_Jn_findLengths_58 : decode prog_6_method_2_code 58 = .ok (.invokevirtual 32, 3) := by decide +kernel
theorem d_Jn_findLengths_61 : decode prog_6_method_2_code 61 = .ok (.iinc 4 1, 3) := by decide +kernel
theorem d_Jn_findLengths_64 : decode prog_6_method_2_code 64 = .ok (.iinc 5 1, 3) := by decide +kernel
theorem d_Jn_findLengths_67 : decode prog_6_method_2_code 67 = .ok (.goto (-18), 3) := by decide +kernel
theorem d_Jn_findLengths_70 : decode prog_6_method_2_code 70 = .ok (.aload_n 0, 1) := by decide +kernel
theorem d_Jn_findLengths_71 : decode prog_6_method_2_code 71 = .ok (.iload_n 2, 1) := by decide +kernel
theorem d_Jn_findLengths_72 : decode prog_6_method_2_code 72 = .ok (.iload 4, 2) := by decide +kernel
theorem d_Jn_findLengths_74 : decode prog_6_method_2_code 74 = .ok (.aload_n 3, 1) := by decide +kernel
theorem d_Jn_findLengths_75 : decode prog_6_method_2_code 75 = .ok (.invokevirtual 35, 3) := by decide +kernel
theorem d_Jn_findLengths_78 : decode prog_6_method_2_code 78 = .ok (.ireturn, 1) := by decide +kernel
theorem d_Jn_joinTwo_0 : decode prog_6_method_3_code 0 = .ok (.aload_n 0, 1) := by decide +kernel
theorem d_Jn_joinTwo_1 : decode prog_6_method_3_code 1 = .ok (.invokevirtual 39, 3) := by decide +kernel
theorem d_Jn_joinTwo_4 : decode prog_6_method_3_code 4 = .ok (.istore_n 2, 1) := by decide +kernel
theorem d_Jn_joinTwo_5 : decode prog_6_method_3_code 5 = .ok (.aload_n 0, 1) := by decide +kernel
theorem d_Jn_joinTwo_6 : decode prog_6_method_3_code 6 = .ok (.invokevirtual 39, 3) := by decide +kernel
theorem d_Jn_joinTwo_9 : decode prog_6_method_3_code 9 = .ok (.istore_n 3, 1) := by decide +kernel
theorem d_Jn_joinTwo_10 : decode prog_6_method_3_code 10 = .ok (.iload_n 2, 1) := by decide +kernel
theorem d_Jn_joinTwo_11 : decode prog_6_method_3_code 11 = .ok (.sipush 511, 3) := by decide +kernel
theorem d_Jn_joinTwo_14 : decode prog_6_method_3_code 14 = .ok (.iand, 1) := by decide +kernel
theorem d_Jn_joinTwo_15 : decode prog_6_method_3_code 15 = .ok (.iload_n 3, 1) := by decide +kernel
theorem d_Jn_joinTwo_16 : decode prog_6_method_3_code 16 = .ok (.sipush 511, 3) := by decide +kernel
theorem d_Jn_joinTwo_19 : decode prog_6_method_3_code 19 = .ok (.iand, 1) := by decide +kernel
theorem d_Jn_joinTwo_20 : decode prog_6_method_3_code 20 = .ok (.invokestatic 43, 3) := by decide +kernel
theorem d_Jn_joinTwo_23 : decode prog_6_method_3_code 23 = .ok (.istore 4, 2) := by decide +kernel
theorem d_Jn_joinTwo_25 : decode prog_6_method_3_code 25 = .ok (.aload_n 0, 1) := by decide +kernel
theorem d_Jn_joinTwo_26 : decode prog_6_method_3_code 26 = .ok (.getfield 18, 3) := by decide +kernel
theorem d_Jn_joinTwo_29 : decode prog_6_method_3_code 29 = .ok (.aload_n 0, 1) := by decide +kernel
theorem d_Jn_joinTwo_30 : decode prog_6_method_3_code 30 = .ok (.getfield 15, 3) := by decide +kernel
theorem d_Jn_joinTwo_33 : decode prog_6_method_3_code 33 = .ok (.iload_n 2, 1) := by decide +kernel
theorem d_Jn_joinTwo_34 : decode prog_6_method_3_code 34 = .ok (.sipush 511, 3) := by decide +kernel
theorem d_Jn_joinTwo_37 : decode prog_6_method_3_code 37 = .ok (.iand, 1) := by decide +kernel
theorem d_Jn_joinTwo_38 : decode prog_6_method_3_code 38 = .ok (.iaload, 1) := by decide +kernel
theorem d_Jn_joinTwo_39 : decode prog_6_method_3_code 39 = .ok (.iload_n 1, 1) := by decide +kernel
theorem d_Jn_joinTwo_40 : decode prog_6_method_3_code 40 = .ok (.iastore, 1) := by decide +kernel
theorem d_Jn_joinTwo_41 : decode prog_6_method_3_code 41 = .ok (.aload_n 0, 1) := by decide +kernel
theorem d_Jn_joinTwo_42 : decode prog_6_method_3_code 42 = .ok (.getfield 18, 3) := by decide +kernel
theorem d_Jn_joinTwo_45 : decode prog_6_method_3_code 45 = .ok (.aload_n 0, 1) := by decide +kernel
theorem d_Jn_joinTwo_46 : decode prog_6_method_3_code 46 = .ok (.getfield 15, 3) := by decide +kernel
theorem d_Jn_joinTwo_49 : decode prog_6_method_3_code 49 = .ok (.iload_n 3, 1) := by decide +kernel
theorem d_Jn_joinTwo_50 : decode prog_6_method_3_code 50 = .ok (.sipush 511, 3) := by decide +kernel
theorem d_Jn_joinTwo_53 : decode prog_6_method_3_code 53 = .ok (.iand, 1) := by decide +kernel
theorem d_Jn_joinTwo_54 : decode prog_6_method_3_code 54 = .ok (.iaload, 1) := by decide +kernel
theorem d_Jn_joinTwo_55 : decode prog_6_method_3_code 55 = .ok (.iload_n 1, 1) := by decide +kernel
theorem d_Jn_joinTwo_56 : decode prog_6_method_3_code 56 = .ok (.iastore, 1) := by decide +kernel
theorem d_Jn_joinTwo_57 : decode prog_6_method_3_code 57 = .ok (.aload_n 0, 1) := by decide +kernel
theorem d_Jn_joinTwo_58 : decode prog_6_method_3_code 58 = .ok (.getfield 15, 3) := by decide +kernel
theorem d_Jn_joinTwo_61 : decode prog_6_method_3_code 61 = .ok (.iload 4, 2) := by decide +kernel
theorem d_Jn_joinTwo_63 : decode prog_6_method_3_code 63 = .ok (.iload_n 1, 1) := by decide +kernel
theorem d_Jn_joinTwo_64 : decode prog_6_method_3_code 64 = .ok (.iastore, 1) := by decide +kernel
theorem d_Jn_joinTwo_65 : decode prog_6_method_3_code 65 = .ok (.iload_n 2, 1) := by decide +kernel
theorem d_Jn_joinTwo_66 : decode prog_6_method_3_code 66 = .ok (.bipush 9, 2) := by decide +kernel
theorem d_Jn_joinTwo_68 : decode prog_6_method_3_code 68 = .ok (.ishr, 1) := by decide +kernel
theorem d_Jn_joinTwo_69 : decode prog_6_method_3_code 69 = .ok (.iload_n 3, 1) := by decide +kernel
theorem d_Jn_joinTwo_70 : decode prog_6_method_3_code 70 = .ok (.bipush 9, 2) := by decide +kernel
theorem d_Jn_joinTwo_72 : decode prog_6_method_3_code 72 = .ok (.ishr, 1) := by decide +kernel
theorem d_Jn_joinTwo_73 : decode prog_6_method_3_code 73 = .ok (.iadd, 1) := by decide +kernel
theorem d_Jn_joinTwo_74 : decode prog_6_method_3_code 74 = .ok (.istore 5, 2) := by decide +kernel
theorem d_Jn_joinTwo_76 : decode prog_6_method_3_code 76 = .ok (.aload_n 0, 1) := by decide +kernel
theorem d_Jn_joinTwo_77 : decode prog_6_method_3_code 77 = .ok (.iload 5, 2) := by decide +kernel
theorem d_Jn_joinTwo_79 : decode prog_6_method_3_code 79 = .ok (.bipush 9, 2) := by decide +kernel
theorem d_Jn_joinTwo_81 : decode prog_6_method_3_code 81 = .ok (.ishl, 1) := by decide +kernel
theorem d_Jn_joinTwo_82 : decode prog_6_method_3_code 82 = .ok (.iload 4, 2) := by decide +kernel
theorem d_Jn_joinTwo_84 : decode prog_6_method_3_code 84 = .ok (.ior, 1) := by decide +kernel
theorem d_Jn_joinTwo_85 : decode prog_6_method_3_code 85 = .ok (.invokevirtual 28, 3) := by decide +kernel
theorem d_Jn_joinTwo_88 : decode prog_6_method_3_code 88 = .ok (.return_, 1) := by decide +kernel
theorem d_Jn_measureDepths_0 : decode prog_6_method_4_code 0 = .ok (.iconst 0, 1) := by decide +kernel
theorem d_Jn_measureDepths_1 : decode prog_6_method_4_code 1 = .ok (.istore 4, 2) := by decide +kernel
theorem d_Jn_measureDepths_3 : decode prog_6_method_4_code 3 = .ok (.iload_n 2, 1) := by decide +kernel
theorem d_Jn_measureDepths_4 : decode prog_6_method_4_code 4 = .ok (.iconst 1, 1) := by decide +kernel
theorem d_Jn_measureDepths_5 : decode prog_6_method_4_code 5 = .ok (.isub, 1) := by decide +kernel
theorem d_Jn_measureDepths_6 : decode prog_6_method_4_code 6 = .ok (.istore 5, 2) := by decide +kernel
theorem d_Jn_measureDepths_8 : decode prog_6_method_4_code 8 = .ok (.iload 5, 2) := by decide +kernel
theorem d_Jn_measureDepths_10 : decode prog_6_method_4_code 10 = .ok (.ifCond .lt 73, 3) := by decide +kernel
theorem d_Jn_measureDepths_13 : decode prog_6_method_4_code 13 = .ok (.aload_n 0, 1) := by decide +kernel
theorem d_Jn_measureDepths_14 : decode prog_6_method_4_code 14 = .ok (.getfield 21, 3) := by decide +kernel
theorem d_Jn_measureDepths_17 : decode prog_6_method_4_code 17 = .ok (.iload 5, 2) := by decide +kernel
theorem d_Jn_measureDepths_19 : decode prog_6_method_4_code 19 = .ok (.iload 5, 2) := by decide +kernel
theorem d_Jn_measureDepths_21 : decode prog_6_method_4_code 21 = .ok (.iload_n 2, 1) := by decide +kernel
theorem d_Jn_measureDepths_22 : decode prog_6_method_4_code 22 = .ok (.iconst 1, 1) := by decide +kernel
theorem d_Jn_measureDepths_23 : decode prog_6_method_4_code 23 = .ok (.isub, 1) := by decide +kernel
theorem d_Jn_measureDepths_24 : decode prog_6_method_4_code 24 = .ok (.if_icmp .ne 7, 3) := by decide +kernel
theorem d_Jn_measureDepths_27 : decode prog_6_method_4_code 27 = .ok (.iconst 0, 1) := by decide +kernel
theorem d_Jn_measureDepths_28 : decode prog_6_method_4_code 28 = .ok (.goto 17, 3) := by decide +kernel
theorem d_Jn_measureDepths_31 : decode prog_6_method_4_code 31 = .ok (.aload_n 0, 1) := by decide +kernel
theorem d_Jn_measureDepths_32 : decode prog_6_method_4_code 32 = .ok (.getfield 21, 3) := by decide +kernel
theorem d_Jn_measureDepths_35 : decode prog_6_method_4_code 35 = .ok (.aload_n 0, 1) := by decide +kernel
theorem d_Jn_measureDepths_36 : decode prog_6_method_4_code 36 = .ok (.getfield 18, 3) := by decide +kernel
theorem d_Jn_measureDepths_39 : decode prog_6_method_4_code 39 = .ok (.iload 5, 2) := by decide +kernel
theorem d_Jn_measureDepths_41 : decode prog_6_method_4_code 41 = .ok (.iaload, 1) := by decide +kernel
theorem d_Jn_measureDepths_42 : decode prog_6_method_4_code 42 = .ok (.iaload, 1) := by decide +kernel
theorem d_Jn_measureDepths_43 : decode prog_6_method_4_code 43 = .ok (.iconst 1, 1) := by decide +kernel
theorem d_Jn_measureDepths_44 : decode prog_6_method_4_code 44 = .ok (.iadd, 1) := by decide +kernel
theorem d_Jn_measureDepths_45 : decode prog_6_method_4_code 45 = .ok (.iastore, 1) := by decide +kernel
theorem d_Jn_measureDepths_46 : decode prog_6_method_4_code 46 = .ok (.iload 5, 2) := by decide +kernel
theorem d_Jn_measureDepths_48 : decode prog_6_method_4_code 48 = .ok (.iload_n 1, 1) := by decide +kernel
theorem d_Jn_measureDepths_49 : decode prog_6_method_4_code 49 = .ok (.if_icmp .ge 28, 3) := by decide +kernel
theorem d_Jn_measureDepths_52 : decode prog_6_method_4_code 52 = .ok (.aload_n 3, 1) := by decide +kernel
theorem d_Jn_measureDepths_53 : decode prog_6_method_4_code 53 = .ok (.iload 5, 2) := by decide +kernel
theorem d_Jn_measureDepths_55 : decode prog_6_method_4_code 55 = .ok (.aload_n 0, 1) := by decide +kernel
theorem d_Jn_measureDepths_56 : decode prog_6_method_4_code 56 = .ok (.getfield 21, 3) := by decide +kernel
theorem d_Jn_measureDepths_59 : decode prog_6_method_4_code 59 = .ok (.iload 5, 2) := by decide +kernel
theorem d_Jn_measureDepths_61 : decode prog_6_method_4_code 61 = .ok (.iaload, 1) := by decide +kernel
theorem d_Jn_measureDepths_62 : decode prog_6_method_4_code 62 = .ok (.iastore, 1) := by decide +kernel
theorem d_Jn_measureDepths_63 : decode prog_6_method_4_code 63 = .ok (.iload 4, 2) := by decide +kernel
theorem d_Jn_measureDepths_65 : decode prog_6_method_4_code 65 = .ok (.aload_n 0, 1) := by decide +kernel
theorem d_Jn_measureDepths_66 : decode prog_6_method_4_code 66 = .ok (.getfield 21, 3) := by decide +kernel
theorem d_Jn_measureDepths_69 : decode prog_6_method_4_code 69 = .ok (.iload 5, 2) := by decide +kernel
theorem d_Jn_measureDepths_71 : decode prog_6_method_4_code 71 = .ok (.iaload, 1) := by decide +kernel
theorem d_Jn_measureDepths_72 : decode prog_6_method_4_code 72 = .ok (.invokestatic 49, 3) := by decide +kernel
theorem d_Jn_measureDepths_75 : decode prog_6_method_4_code 75 = .ok (.istore 4, 2) := by decide +kernel
theorem d_Jn_measureDepths_77 : decode prog_6_method_4_code 77 = .ok (.iinc 5 (-1), 3) := by decide +kernel
theorem d_Jn_measureDepths_80 : decode prog_6_method_4_code 80 = .ok (.goto (-72), 3) := by decide +kernel
theorem d_Jn_measureDepths_83 : decode prog_6_method_4_code 83 = .ok (.iload 4, 2) := by decide +kernel
theorem d_Jn_measureDepths_85 : decode prog_6_method_4_code 85 = .ok (.ireturn, 1) := by decide +kernel
theorem d_Jn_push_0 : decode prog_6_method_5_code 0 = .ok (.aload_n 0, 1) := by decide +kernel
theorem d_Jn_push_1 : decode prog_6_method_5_code 1 = .ok (.getfield 24, 3) := by decide +kernel
theorem d_Jn_push_4 : decode prog_6_method_5_code 4 = .ok (.aload_n 0, 1) := by decide +kernel
theorem d_Jn_push_5 : decode prog_6_method_5_code 5 = .ok (.getfield 11, 3) := by decide +kernel
theorem d_Jn_push_8 : decode prog_6_method_5_code 8 = .ok (.arraylength, 1) := by decide +kernel
theorem d_Jn_push_9 : decode prog_6_method_5_code 9 = .ok (.if_icmp .lt 4, 3) := by decide +kernel
theorem d_Jn_push_12 : decode prog_6_method_5_code 12 = .ok (.return_, 1) := by decide +kernel
theorem d_Jn_push_13 : decode prog_6_method_5_code 13 = .ok (.aload_n 0, 1) := by decide +kernel
theorem d_Jn_push_14 : decode prog_6_method_5_code 14 = .ok (.getfield 24, 3) := by decide +kernel
theorem d_Jn_push_17 : decode prog_6_method_5_code 17 = .ok (.istore_n 2, 1) := by decide +kernel
theorem d_Jn_push_18 : decode prog_6_method_5_code 18 = .ok (.aload_n 0, 1) := by decide +kernel
theorem d_Jn_push_19 : decode prog_6_method_5_code 19 = .ok (.dup, 1) := by decide +kernel
theorem d_Jn_push_20 : decode prog_6_method_5_code 20 = .ok (.getfield 24, 3) := by decide +kernel
theorem d_Jn_push_23 : decode prog_6_method_5_code 23 = .ok (.iconst 1, 1) := by decide +kernel
theorem d_Jn_push_24 : decode prog_6_method_5_code 24 = .ok (.iadd, 1) := by decide +kernel
theorem d_Jn_push_25 : decode prog_6_method_5_code 25 = .ok (.putfield 24, 3) := by decide +kernel
theorem d_Jn_push_28 : decode prog_6_method_5_code 28 = .ok (.iload_n 2, 1) := by decide +kernel
theorem d_Jn_push_29 : decode prog_6_method_5_code 29 = .ok (.ifCond .le 42, 3) := by decide +kernel
theorem d_Jn_push_32 : decode prog_6_method_5_code 32 = .ok (.aload_n 0, 1) := by decide +kernel
theorem d_Jn_push_33 : decode prog_6_method_5_code 33 = .ok (.getfield 11, 3) := by decide +kernel
theorem d_Jn_push_36 : decode prog_6_method_5_code 36 = .ok (.iload_n 2, 1) := by decide +kernel
theorem d_Jn_push_37 : decode prog_6_method_5_code 37 = .ok (.iconst 1, 1) := by decide +kernel
theorem d_Jn_push_38 : decode prog_6_method_5_code 38 = .ok (.isub, 1) := by decide +kernel
theorem d_Jn_push_39 : decode prog_6_method_5_code 39 = .ok (.iconst 2, 1) := by decide +kernel
theorem d_Jn_push_40 : decode prog_6_method_5_code 40 = .ok (.idiv, 1) := by decide +kernel
theorem d_Jn_push_41 : decode prog_6_method_5_code 41 = .ok (.iaload, 1) := by decide +kernel
theorem d_Jn_push_42 : decode prog_6_method_5_code 42 = .ok (.iload_n 1, 1) := by decide +kernel
theorem d_Jn_push_43 : decode prog_6_method_5_code 43 = .ok (.if_icmp .le 28, 3) := by decide +kernel
theorem d_Jn_push_46 : decode prog_6_method_5_code 46 = .ok (.aload_n 0, 1) := by decide +kernel
theorem d_Jn_push_47 : decode prog_6_method_5_code 47 = .ok (.getfield 11, 3) := by decide +kernel
theorem d_Jn_push_50 : decode prog_6_method_5_code 50 = .ok (.iload_n 2, 1) := by decide +kernel
theorem d_Jn_push_51 : decode prog_6_method_5_code 51 = .ok (.aload_n 0, 1) := by decide +kernel
theorem d_Jn_push_52 : decode prog_6_method_5_code 52 = .ok (.getfield 11, 3) := by decide +kernel
theorem d_Jn_push_55 : decode prog_6_method_5_code 55 = .ok (.iload_n 2, 1) := by decide +kernel
theorem d_Jn_push_56 : decode prog_6_method_5_code 56 = .ok (.iconst 1, 1) := by decide +kernel
theorem d_Jn_push_57 : decode prog_6_method_5_code 57 = .ok (.isub, 1) := by decide +kernel
theorem d_Jn_push_58 : decode prog_6_method_5_code 58 = .ok (.iconst 2, 1) := by decide +kernel
theorem d_Jn_push_59 : decode prog_6_method_5_code 59 = .ok (.idiv, 1) := by decide +kernel
theorem d_Jn_push_60 : decode prog_6_method_5_code 60 = .ok (.iaload, 1) := by decide +kernel
theorem d_Jn_push_61 : decode prog_6_method_5_code 61 = .ok (.iastore, 1) := by decide +kernel
theorem d_Jn_push_62 : decode prog_6_method_5_code 62 = .ok (.iload_n 2, 1) := by decide +kernel
theorem d_Jn_push_63 : decode prog_6_method_5_code 63 = .ok (.iconst 1, 1) := by decide +kernel
theorem d_Jn_push_64 : decode prog_6_method_5_code 64 = .ok (.isub, 1) := by decide +kernel
theorem d_Jn_push_65 : decode prog_6_method_5_code 65 = .ok (.iconst 2, 1) := by decide +kernel
theorem d_Jn_push_66 : decode prog_6_method_5_code 66 = .ok (.idiv, 1) := by decide +kernel
theorem d_Jn_push_67 : decode prog_6_method_5_code 67 = .ok (.istore_n 2, 1) := by decide +kernel
theorem d_Jn_push_68 : decode prog_6_method_5_code 68 = .ok (.goto (-40), 3) := by decide +kernel
theorem d_Jn_push_71 : decode prog_6_method_5_code 71 = .ok (.aload_n 0, 1) := by decide +kernel
theorem d_Jn_push_72 : decode prog_6_method_5_code 72 = .ok (.getfield 11, 3) := by decide +kernel
theorem d_Jn_push_75 : decode prog_6_method_5_code 75 = .ok (.iload_n 2, 1) := by decide +kernel
theorem d_Jn_push_76 : decode prog_6_method_5_code 76 = .ok (.iload_n 1, 1) := by decide +kernel
theorem d_Jn_push_77 : decode prog_6_method_5_code 77 = .ok (.iastore, 1) := by decide +kernel
theorem d_Jn_push_78 : decode prog_6_method_5_code 78 = .ok (.return_, 1) := by decide +kernel
theorem d_Jn_pop_0 : decode prog_6_method_6_code 0 = .ok (.aload_n 0, 1) := by decide +kernel
theorem d_Jn_pop_1 : decode prog_6_method_6_code 1 = .ok (.getfield 24, 3) := by decide +kernel
theorem d_Jn_pop_4 : decode prog_6_method_6_code 4 = .ok (.ifCond .ne 5, 3) := by decide +kernel
theorem d_Jn_pop_7 : decode prog_6_method_6_code 7 = .ok (.iconst 0, 1) := by decide +kernel
theorem d_Jn_pop_8 : decode prog_6_method_6_code 8 = .ok (.ireturn, 1) := by decide +kernel
theorem d_Jn_pop_9 : decode prog_6_method_6_code 9 = .ok (.aload_n 0, 1) := by decide +kernel
theorem d_Jn_pop_10 : decode prog_6_method_6_code 10 = .ok (.getfield 11, 3) := by decide +kernel
theorem d_Jn_pop_13 : decode prog_6_method_6_code 13 = .ok (.iconst 0, 1) := by decide +kernel
theorem d_Jn_pop_14 : decode prog_6_method_6_code 14 = .ok (.iaload, 1) := by decide +kernel
theorem d_Jn_pop_15 : decode prog_6_method_6_code 15 = .ok (.istore_n 1, 1) := by decide +kernel
theorem d_Jn_pop_16 : decode prog_6_method_6_code 16 = .ok (.aload_n 0, 1) := by decide +kernel
theorem d_Jn_pop_17 : decode prog_6_method_6_code 17 = .ok (.dup, 1) := by decide +kernel
theorem d_Jn_pop_18 : decode prog_6_method_6_code 18 = .ok (.getfield 24, 3) := by decide +kernel
theorem d_Jn_pop_21 : decode prog_6_method_6_code 21 = .ok (.iconst 1, 1) := by decide +kernel
theorem d_Jn_pop_22 : decode prog_6_method_6_code 22 = .ok (.isub, 1) := by decide +kernel
theorem d_Jn_pop_23 : decode prog_6_method_6_code 23 = .ok (.putfield 24, 3) := by decide +kernel
theorem d_Jn_pop_26 : decode prog_6_method_6_code 26 = .ok (.aload_n 0, 1) := by decide +kernel
theorem d_Jn_pop_27 : decode prog_6_method_6_code 27 = .ok (.getfield 11, 3) := by decide +kernel
theorem d_Jn_pop_30 : decode prog_6_method_6_code 30 = .ok (.aload_n 0, 1) := by decide +kernel
theorem d_Jn_pop_31 : decode prog_6_method_6_code 31 = .ok (.getfield 24, 3) := by decide +kernel
theorem d_Jn_pop_34 : decode prog_6_method_6_code 34 = .ok (.iaload, 1) := by decide +kernel
theorem d_Jn_pop_35 : decode prog_6_method_6_code 35 = .ok (.istore_n 2, 1) := by decide +kernel
theorem d_Jn_pop_36 : decode prog_6_method_6_code 36 = .ok (.iconst 0, 1) := by decide +kernel
theorem d_Jn_pop_37 : decode prog_6_method_6_code 37 = .ok (.istore_n 3, 1) := by decide +kernel
theorem d_Jn_pop_38 : decode prog_6_method_6_code 38 = .ok (.iconst 1, 1) := by decide +kernel
theorem d_Jn_pop_39 : decode prog_6_method_6_code 39 = .ok (.istore 4, 2) := by decide +kernel
theorem d_Jn_pop_41 : decode prog_6_method_6_code 41 = .ok (.iload 4, 2) := by decide +kernel
theorem d_Jn_pop_43 : decode prog_6_method_6_code 43 = .ok (.aload_n 0, 1) := by decide +kernel
theorem d_Jn_pop_44 : decode prog_6_method_6_code 44 = .ok (.getfield 24, 3) := by decide +kernel
theorem d_Jn_pop_47 : decode prog_6_method_6_code 47 = .ok (.if_icmp .ge 76, 3) := by decide +kernel
theorem d_Jn_pop_50 : decode prog_6_method_6_code 50 = .ok (.iload 4, 2) := by decide +kernel
theorem d_Jn_pop_52 : decode prog_6_method_6_code 52 = .ok (.iconst 1, 1) := by decide +kernel
theorem d_Jn_pop_53 : decode prog_6_method_6_code 53 = .ok (.iadd, 1) := by decide +kernel
theorem d_Jn_pop_54 : decode prog_6_method_6_code 54 = .ok (.aload_n 0, 1) := by decide +kernel
theorem d_Jn_pop_55 : decode prog_6_method_6_code 55 = .ok (.getfield 24, 3) := by decide +kernel
theorem d_Jn_pop_58 : decode prog_6_method_6_code 58 = .ok (.if_icmp .ge 25, 3) := by decide +kernel
theorem d_Jn_pop_61 : decode prog_6_method_6_code 61 = .ok (.aload_n 0, 1) := by decide +kernel
theorem d_Jn_pop_62 : decode prog_6_method_6_code 62 = .ok (.getfield 11, 3) := by decide +kernel
theorem d_Jn_pop_65 : decode prog_6_method_6_code 65 = .ok (.iload 4, 2) := by decide +kernel
theorem d_Jn_pop_67 : decode prog_6_method_6_code 67 = .ok (.iconst 1, 1) := by decide +kernel
theorem d_Jn_pop_68 : decode prog_6_method_6_code 68 = .ok (.iadd, 1) := by decide +kernel
theorem d_Jn_pop_69 : decode prog_6_method_6_code 69 = .ok (.iaload, 1) := by decide +kernel
theorem d_Jn_pop_70 : decode prog_6_method_6_code 70 = .ok (.aload_n 0, 1) := by decide +kernel
theorem d_Jn_pop_71 : decode prog_6_method_6_code 71 = .ok (.getfield 11, 3) := by decide +kernel
theorem d_Jn_pop_74 : decode prog_6_method_6_code 74 = .ok (.iload 4, 2) := by decide +kernel
theorem d_Jn_pop_76 : decode prog_6_method_6_code 76 = .ok (.iaload, 1) := by decide +kernel
theorem d_Jn_pop_77 : decode prog_6_method_6_code 77 = .ok (.if_icmp .ge 6, 3) := by decide +kernel
theorem d_Jn_pop_80 : decode prog_6_method_6_code 80 = .ok (.iinc 4 1, 3) := by decide +kernel
theorem d_Jn_pop_83 : decode prog_6_method_6_code 83 = .ok (.aload_n 0, 1) := by decide +kernel
theorem d_Jn_pop_84 : decode prog_6_method_6_code 84 = .ok (.getfield 11, 3) := by decide +kernel
theorem d_Jn_pop_87 : decode prog_6_method_6_code 87 = .ok (.iload 4, 2) := by decide +kernel
theorem d_Jn_pop_89 : decode prog_6_method_6_code 89 = .ok (.iaload, 1) := by decide +kernel
theorem d_Jn_pop_90 : decode prog_6_method_6_code 90 = .ok (.iload_n 2, 1) := by decide +kernel
theorem d_Jn_pop_91 : decode prog_6_method_6_code 91 = .ok (.if_icmp .le 6, 3) := by decide +kernel
theorem d_Jn_pop_94 : decode prog_6_method_6_code 94 = .ok (.goto 29, 3) := by decide +kernel
theorem d_Jn_pop_97 : decode prog_6_method_6_code 97 = .ok (.aload_n 0, 1) := by decide +kernel
theorem d_Jn_pop_98 : decode prog_6_method_6_code 98 = .ok (.getfield 11, 3) := by decide +kernel
theorem d_Jn_pop_101 : decode prog_6_method_6_code 101 = .ok (.iload_n 3, 1) := by decide +kernel
theorem d_Jn_pop_102 : decode prog_6_method_6_code 102 = .ok (.aload_n 0, 1) := by decide +kernel
theorem d_Jn_pop_103 : decode prog_6_method_6_code 103 = .ok (.getfield 11, 3) := by decide +kernel
theorem d_Jn_pop_106 : decode prog_6_method_6_code 106 = .ok (.iload 4, 2) := by decide +kernel
theorem d_Jn_pop_108 : decode prog_6_method_6_code 108 = .ok (.iaload, 1) := by decide +kernel
theorem d_Jn_pop_109 : decode prog_6_method_6_code 109 = .ok (.iastore, 1) := by decide +kernel
theorem d_Jn_pop_110 : decode prog_6_method_6_code 110 = .ok (.iload 4, 2) := by decide +kernel
theorem d_Jn_pop_112 : decode prog_6_method_6_code 112 = .ok (.istore_n 3, 1) := by decide +kernel
theorem d_Jn_pop_113 : decode prog_6_method_6_code 113 = .ok (.iconst 2, 1) := by decide +kernel
theorem d_Jn_pop_114 : decode prog_6_method_6_code 114 = .ok (.iload_n 3, 1) := by decide +kernel
theorem d_Jn_pop_115 : decode prog_6_method_6_code 115 = .ok (.imul, 1) := by decide +kernel
theorem d_Jn_pop_116 : decode prog_6_method_6_code 116 = .ok (.iconst 1, 1) := by decide +kernel
theorem d_Jn_pop_117 : decode prog_6_method_6_code 117 = .ok (.iadd, 1) := by decide +kernel
theorem d_Jn_pop_118 : decode prog_6_method_6_code 118 = .ok (.istore 4, 2) := by decide +kernel
theorem d_Jn_pop_120 : decode prog_6_method_6_code 120 = .ok (.goto (-79), 3) := by decide +kernel
theorem d_Jn_pop_123 : decode prog_6_method_6_code 123 = .ok (.aload_n 0, 1) := by decide +kernel
theorem d_Jn_pop_124 : decode prog_6_method_6_code 124 = .ok (.getfield 11, 3) := by decide +kernel
theorem d_Jn_pop_127 : decode prog_6_method_6_code 127 = .ok (.iload_n 3, 1) := by decide +kernel
theorem d_Jn_pop_128 : decode prog_6_method_6_code 128 = .ok (.iload_n 2, 1) := by decide +kernel
theorem d_Jn_pop_129 : decode prog_6_method_6_code 129 = .ok (.iastore, 1) := by decide +kernel
theorem d_Jn_pop_130 : decode prog_6_method_6_code 130 = .ok (.iload_n 1, 1) := by decide +kernel
theorem d_Jn_pop_131 : decode prog_6_method_6_code 131 = .ok (.ireturn, 1) := by decide +kernel
theorem d_Rw_init_0 : decode prog_7_method_1_code 0 = .ok (.aload_n 0, 1) := by decide +kernel
theorem d_Rw_init_1 : decode prog_7_method_1_code 1 = .ok (.invokespecial 3, 3) := by decide +kernel
theorem d_Rw_init_4 : decode prog_7_method_1_code 4 = .ok (.aload_n 0, 1) := by decide +kernel
theorem d_Rw_init_5 : decode prog_7_method_1_code 5 = .ok (.iload_n 1, 1) := by decide +kernel
theorem d_Rw_init_6 : decode prog_7_method_1_code 6 = .ok (.iconst 0, 1) := by decide +kernel
theorem d_Rw_init_7 : decode prog_7_method_1_code 7 = .ok (.invokestatic 9, 3) := by decide +kernel
theorem d_Rw_init_10 : decode prog_7_method_1_code 10 = .ok (.newarray .int, 2) := by decide +kernel
theorem d_Rw_init_12 : decode prog_7_method_1_code 12 = .ok (.putfield 15, 3) := by decide +kernel
theorem d_Rw_init_15 : decode prog_7_method_1_code 15 = .ok (.return_, 1) := by decide +kernel
theorem d_Rw_has_0 : decode prog_7_method_2_code 0 = .ok (.iload_n 1, 1) := by decide +kernel
theorem d_Rw_has_1 : decode prog_7_method_2_code 1 = .ok (.ifCond .lt 15, 3) := by decide +kernel
theorem d_Rw_has_4 : decode prog_7_method_2_code 4 = .ok (.iload_n 1, 1) := by decide +kernel
theorem d_Rw_has_5 : decode prog_7_method_2_code 5 = .ok (.aload_n 0, 1) := by decide +kernel
theorem d_Rw_has_6 : decode prog_7_method_2_code 6 = .ok (.getfield 21, 3) := by decide +kernel
theorem d_Rw_has_9 : decode prog_7_method_2_code 9 = .ok (.if_icmp .ge 7, 3) := by decide +kernel
theorem d_Rw_has_12 : decode prog_7_method_2_code 12 = .ok (.iconst 1, 1) := by decide +kernel
theorem d_Rw_has_13 : decode prog_7_method_2_code 13 = .ok (.goto 4, 3) := by decide +kernel
theorem d_Rw_has_16 : decode prog_7_method_2_code 16 = .ok (.iconst 0, 1) := by decide +kernel
theorem d_Rw_has_17 : decode prog_7_method_2_code 17 = .ok (.ireturn, 1) := by decide +kernel
theorem d_Rw_hasRoom_0 : decode prog_7_method_3_code 0 = .ok (.iload_n 1, 1) := by decide +kernel
theorem d_Rw_hasRoom_1 : decode prog_7_method_3_code 1 = .ok (.aload_n 0, 1) := by decide +kernel
theorem d_Rw_hasRoom_2 : decode prog_7_method_3_code 2 = .ok (.getfield 15, 3) := by decide +kernel
theorem d_Rw_hasRoom_5 : decode prog_7_method_3_code 5 = .ok (.arraylength, 1) := by decide +kernel
theorem d_Rw_hasRoom_6 : decode prog_7_method_3_code 6 = .ok (.aload_n 0, 1) := by decide +kernel
theorem d_Rw_hasRoom_7 : decode prog_7_method_3_code 7 = .ok (.getfield 21, 3) := by decide +kernel
theorem d_Rw_hasRoom_10 : decode prog_7_method_3_code 10 = .ok (.isub, 1) := by decide +kernel
theorem d_Rw_hasRoom_11 : decode prog_7_method_3_code 11 = .ok (.if_icmp .gt 7, 3) := by decide +kernel
theorem d_Rw_hasRoom_14 : decode prog_7_method_3_code 14 = .ok (.iconst 1, 1) := by decide +kernel
theorem d_Rw_hasRoom_15 : decode prog_7_method_3_code 15 = .ok (.goto 4, 3) := by decide +kernel
theorem d_Rw_hasRoom_18 : decode prog_7_method_3_code 18 = .ok (.iconst 0, 1) := by decide +kernel
theorem d_Rw_hasRoom_19 : decode prog_7_method_3_code 19 = .ok (.ireturn, 1) := by decide +kernel
theorem d_Rw_at_0 : decode prog_7_method_4_code 0 = .ok (.iload_n 1, 1) := by decide +kernel
theorem d_Rw_at_1 : decode prog_7_method_4_code 1 = .ok (.ifCond .lt 20, 3) := by decide +kernel
theorem d_Rw_at_4 : decode prog_7_method_4_code 4 = .ok (.iload_n 1, 1) := by decide +kernel
theorem d_Rw_at_5 : decode prog_7_method_4_code 5 = .ok (.aload_n 0, 1) := by decide +kernel
theorem d_Rw_at_6 : decode prog_7_method_4_code 6 = .ok (.getfield 21, 3) := by decide +kernel
theorem d_Rw_at_9 : decode prog_7_method_4_code 9 = .ok (.if_icmp .ge 12, 3) := by decide +kernel
theorem d_Rw_at_12 : decode prog_7_method_4_code 12 = .ok (.aload_n 0, 1) := by decide +kernel
theorem d_Rw_at_13 : decode prog_7_method_4_code 13 = .ok (.getfield 15, 3) := by decide +kernel
theorem d_Rw_at_16 : decode prog_7_method_4_code 16 = .ok (.iload_n 1, 1) := by decide +kernel
theorem d_Rw_at_17 : decode prog_7_method_4_code 17 = .ok (.iaload, 1) := by decide +kernel
theorem d_Rw_at_18 : decode prog_7_method_4_code 18 = .ok (.goto 5, 3) := by decide +kernel
theorem d_Rw_at_21 : decode prog_7_method_4_code 21 = .ok (.bipush (-2), 2) := by decide +kernel
theorem d_Rw_at_23 : decode prog_7_method_4_code 23 = .ok (.ireturn, 1) := by decide +kernel
theorem d_Rw_add_0 : decode prog_7_method_5_code 0 = .ok (.aload_n 0, 1) := by decide +kernel
theorem d_Rw_add_1 : decode prog_7_method_5_code 1 = .ok (.getfield 21, 3) := by decide +kernel
theorem d_Rw_add_4 : decode prog_7_method_5_code 4 = .ok (.aload_n 0, 1) := by decide +kernel
theorem d_Rw_add_5 : decode prog_7_method_5_code 5 = .ok (.getfield 15, 3) := by decide +kernel
theorem d_Rw_add_8 : decode prog_7_method_5_code 8 = .ok (.arraylength, 1) := by decide +kernel
theorem d_Rw_add_9 : decode prog_7_method_5_code 9 = .ok (.if_icmp .ge 23, 3) := by decide +kernel
theorem d_Rw_add_12 : decode prog_7_method_5_code 12 = .ok (.aload_n 0, 1) := by decide +kernel
theorem d_Rw_add_13 : decode prog_7_method_5_code 13 = .ok (.getfield 15, 3) := by decide +kernel
theorem d_Rw_add_16 : decode prog_7_method_5_code 16 = .ok (.aload_n 0, 1) := by decide +kernel
theorem d_Rw_add_17 : decode prog_7_method_5_code 17 = .ok (.getfield 21, 3) := by decide +kernel
theorem d_Rw_add_20 : decode prog_7_method_5_code 20 = .ok (.iload_n 1, 1) := by decide +kernel
theorem d_Rw_add_21 : decode prog_7_method_5_code 21 = .ok (.iastore, 1) := by decide +kernel
theorem d_Rw_add_22 : decode prog_7_method_5_code 22 = .ok (.aload_n 0, 1) := by decide +kernel
theorem d_Rw_add_23 : decode prog_7_method_5_code 23 = .ok (.dup, 1) := by decide +kernel
theorem d_Rw_add_24 : decode prog_7_method_5_code 24 = .ok (.getfield 21, 3) := by decide +kernel
theorem d_Rw_add_27 : decode prog_7_method_5_code 27 = .ok (.iconst 1, 1) := by decide +kernel
theorem d_Rw_add_28 : decode prog_7_method_5_code 28 = .ok (.iadd, 1) := by decide +kernel
theorem d_Rw_add_29 : decode prog_7_method_5_code 29 = .ok (.putfield 21, 3) := by decide +kernel
theorem d_Rw_add_32 : decode prog_7_method_5_code 32 = .ok (.return_, 1) := by decide +kernel
theorem d_Rw_addMany_0 : decode prog_7_method_6_code 0 = .ok (.iconst 0, 1) := by decide +kernel
theorem d_Rw_addMany_1 : decode prog_7_method_6_code 1 = .ok (.istore_n 3, 1) := by decide +kernel
theorem d_Rw_addMany_2 : decode prog_7_method_6_code 2 = .ok (.iload_n 3, 1) := by decide +kernel
theorem d_Rw_addMany_3 : decode prog_7_method_6_code 3 = .ok (.iload_n 1, 1) := by decide +kernel
theorem d_Rw_addMany_4 : decode prog_7_method_6_code 4 = .ok (.if_icmp .ge 14, 3) := by decide +kernel
theorem d_Rw_addMany_7 : decode prog_7_method_6_code 7 = .ok (.aload_n 0, 1) := by decide +kernel
theorem d_Rw_addMany_8 : decode prog_7_method_6_code 8 = .ok (.iload_n 2, 1) := by decide +kernel
theorem d_Rw_addMany_9 : decode prog_7_method_6_code 9 = .ok (.invokevirtual 25, 3) := by decide +kernel
theorem d_Rw_addMany_12 : decode prog_7_method_6_code 12 = .ok (.iinc 3 1, 3) := by decide +kernel
theorem d_Rw_addMany_15 : decode prog_7_method_6_code 15 = .ok (.goto (-13), 3) := by decide +kernel
theorem d_Rw_addMany_18 : decode prog_7_method_6_code 18 = .ok (.return_, 1) := by decide +kernel
theorem d_Rw_joinWith_0 : decode prog_7_method_7_code 0 = .ok (.aload_n 0, 1) := by decide +kernel
theorem d_Rw_joinWith_1 : decode prog_7_method_7_code 1 = .ok (.iload_n 1, 1) := by decide +kernel
theorem d_Rw_joinWith_2 : decode prog_7_method_7_code 2 = .ok (.invokevirtual 29, 3) := by decide +kernel
theorem d_Rw_joinWith_5 : decode prog_7_method_7_code 5 = .ok (.ifCond .eq 13, 3) := by decide +kernel
theorem d_Rw_joinWith_8 : decode prog_7_method_7_code 8 = .ok (.aload_n 0, 1) := by decide +kernel
theorem d_Rw_joinWith_9 : decode prog_7_method_7_code 9 = .ok (.getfield 15, 3) := by decide +kernel
theorem d_Rw_joinWith_12 : decode prog_7_method_7_code 12 = .ok (.iload_n 1, 1) := by decide +kernel
theorem d_Rw_joinWith_13 : decode prog_7_method_7_code 13 = .ok (.dup2, 1) := by decide +kernel
theorem d_Rw_joinWith_14 : decode prog_7_method_7_code 14 = .ok (.iaload, 1) := by decide +kernel
theorem d_Rw_joinWith_15 : decode prog_7_method_7_code 15 = .ok (.iload_n 2, 1) := by decide +kernel
theorem d_Rw_joinWith_16 : decode prog_7_method_7_code 16 = .ok (.ixor, 1) := by decide +kernel
theorem d_Rw_joinWith_17 : decode prog_7_method_7_code 17 = .ok (.iastore, 1) := by decide +kernel
theorem d_Rw_joinWith_18 : decode prog_7_method_7_code 18 = .ok (.return_, 1) := by decide +kernel
theorem d_Rw_shorten_0 : decode prog_7_method_8_code 0 = .ok (.iload_n 1, 1) := by decide +kernel
theorem d_Rw_shorten_1 : decode prog_7_method_8_code 1 = .ok (.ifCond .lt 16, 3) := by decide +kernel
theorem d_Rw_shorten_4 : decode prog_7_method_8_code 4 = .ok (.iload_n 1, 1) := by decide +kernel
theorem d_Rw_shorten_5 : decode prog_7_method_8_code 5 = .ok (.aload_n 0, 1) := by decide +kernel
theorem d_Rw_shorten_6 : decode prog_7_method_8_code 6 = .ok (.getfield 21, 3) := by decide +kernel
theorem d_Rw_shorten_9 : decode prog_7_method_8_code 9 = .ok (.if_icmp .ge 8, 3) := by decide +kernel
theorem d_Rw_shorten_12 : decode prog_7_method_8_code 12 = .ok (.aload_n 0, 1) := by decide +kernel
theorem d_Rw_shorten_13 : decode prog_7_method_8_code 13 = .ok (.iload_n 1, 1) := by decide +kernel
theorem d_Rw_shorten_14 : decode prog_7_method_8_code 14 = .ok (.putfield 21, 3) := by decide +kernel
theorem d_Rw_shorten_17 : decode prog_7_method_8_code 17 = .ok (.return_, 1) := by decide +kernel
theorem d_Rw_copyOf_0 : decode prog_7_method_9_code 0 = .ok (.aload_n 0, 1) := by decide +kernel
theorem d_Rw_copyOf_1 : decode prog_7_method_9_code 1 = .ok (.iconst 0, 1) := by decide +kernel
theorem d_Rw_copyOf_2 : decode prog_7_method_9_code 2 = .ok (.putfield 21, 3) := by decide +kernel
theorem d_Rw_copyOf_5 : decode prog_7_method_9_code 5 = .ok (.iconst 0, 1) := by decide +kernel
theorem d_Rw_copyOf_6 : decode prog_7_method_9_code 6 = .ok (.istore_n 2, 1) := by decide +kernel
theorem d_Rw_copyOf_7 : decode prog_7_method_9_code 7 = .ok (.iload_n 2, 1) := by decide +kernel
theorem d_Rw_copyOf_8 : decode prog_7_method_9_code 8 = .ok (.aload_n 1, 1) := by decide +kernel
theorem d_Rw_copyOf_9 : decode prog_7_method_9_code 9 = .ok (.getfield 21, 3) := by decide +kernel
theorem d_Rw_copyOf_12 : decode prog_7_method_9_code 12 = .ok (.if_icmp .ge 18, 3) := by decide +kernel
theorem d_Rw_copyOf_15 : decode prog_7_method_9_code 15 = .ok (.aload_n 0, 1) := by decide +kernel
theorem d_Rw_copyOf_16 : decode prog_7_method_9_code 16 = .ok (.aload_n 1, 1) := by decide +kernel
theorem d_Rw_copyOf_17 : decode prog_7_method_9_code 17 = .ok (.iload_n 2, 1) := by decide +kernel
theorem d_Rw_copyOf_18 : decode prog_7_method_9_code 18 = .ok (.invokevirtual 33, 3) := by decide +kernel
theorem d_Rw_copyOf_21 : decode prog_7_method_9_code 21 = .ok (.invokevirtual 25, 3) := by decide +kernel
theorem d_Rw_copyOf_24 : decode prog_7_method_9_code 24 = .ok (.iinc 2 1, 3) := by decide +kernel
theorem d_Rw_copyOf_27 : decode prog_7_method_9_code 27 = .ok (.goto (-20), 3) := by decide +kernel
theorem d_Rw_copyOf_30 : decode prog_7_method_9_code 30 = .ok (.return_, 1) := by decide +kernel
theorem d_Rw_isLike_0 : decode prog_7_method_10_code 0 = .ok (.aload_n 0, 1) := by decide +kernel
theorem d_Rw_isLike_1 : decode prog_7_method_10_code 1 = .ok (.getfield 21, 3) := by decide +kernel
theorem d_Rw_isLike_4 : decode prog_7_method_10_code 4 = .ok (.aload_n 1, 1) := by decide +kernel
theorem d_Rw_isLike_5 : decode prog_7_method_10_code 5 = .ok (.getfield 21, 3) := by decide +kernel
theorem d_Rw_isLike_8 : decode prog_7_method_10_code 8 = .ok (.if_icmp .eq 5, 3) := by decide +kernel
theorem d_Rw_isLike_11 : decode prog_7_method_10_code 11 = .ok (.iconst 0, 1) := by decide +kernel
theorem d_Rw_isLike_12 : decode prog_7_method_10_code 12 = .ok (.ireturn, 1) := by decide +kernel
theorem d_Rw_isLike_13 : decode prog_7_method_10_code 13 = .ok (.iconst 0, 1) := by decide +kernel
theorem d_Rw_isLike_14 : decode prog_7_method_10_code 14 = .ok (.istore_n 2, 1) := by decide +kernel
theorem d_Rw_isLike_15 : decode prog_7_method_10_code 15 = .ok (.iload_n 2, 1) := by decide +kernel
theorem d_Rw_isLike_16 : decode prog_7_method_10_code 16 = .ok (.aload_n 0, 1) := by decide +kernel
theorem d_Rw_isLike_17 : decode prog_7_method_10_code 17 = .ok (.getfield 21, 3) := by decide +kernel
theorem d_Rw_isLike_20 : decode prog_7_method_10_code 20 = .ok (.if_icmp .ge 24, 3) := by decide +kernel
theorem d_Rw_isLike_23 : decode prog_7_method_10_code 23 = .ok (.aload_n 0, 1) := by decide +kernel
theorem d_Rw_isLike_24 : decode prog_7_method_10_code 24 = .ok (.iload_n 2, 1) := by decide +kernel
theorem d_Rw_isLike_25 : decode prog_7_method_10_code 25 = .ok (.invokevirtual 33, 3) := by decide +kernel
theorem d_Rw_isLike_28 : decode prog_7_method_10_code 28 = .ok (.aload_n 1, 1) := by decide +kernel
theorem d_Rw_isLike_29 : decode prog_7_method_10_code 29 = .ok (.iload_n 2, 1) := by decide +kernel
theorem d_Rw_isLike_30 : decode prog_7_method_10_code 30 = .ok (.invokevirtual 33, 3) := by decide +kernel
theorem d_Rw_isLike_33 : decode prog_7_method_10_code 33 = .ok (.if_icmp .eq 5, 3) := by decide +kernel
theorem d_Rw_isLike_36 : decode prog_7_method_10_code 36 = .ok (.iconst 0, 1) := by decide +kernel
theorem d_Rw_isLike_37 : decode prog_7_method_10_code 37 = .ok (.ireturn, 1) := by decide +kernel
theorem d_Rw_isLike_38 : decode prog_7_method_10_code 38 = .ok (.iinc 2 1, 3) := by decide +kernel
theorem d_Rw_isLike_41 : decode prog_7_method_10_code 41 = .ok (.goto (-26), 3) := by decide +kernel
theorem d_Rw_isLike_44 : decode prog_7_method_10_code 44 = .ok (.iconst 1, 1) := by decide +kernel
theorem d_Rw_isLike_45 : decode prog_7_method_10_code 45 = .ok (.ireturn, 1) := by decide +kernel
theorem d_Sr_init_0 : decode prog_8_method_1_code 0 = .ok (.aload_n 0, 1) := by decide +kernel
theorem d_Sr_init_1 : decode prog_8_method_1_code 1 = .ok (.invokespecial 3, 3) := by decide +kernel
theorem d_Sr_init_4 : decode prog_8_method_1_code 4 = .ok (.aload_n 0, 1) := by decide +kernel
theorem d_Sr_init_5 : decode prog_8_method_1_code 5 = .ok (.new 9, 3) := by decide +kernel
theorem d_Sr_init_8 : decode prog_8_method_1_code 8 = .ok (.dup, 1) := by decide +kernel
theorem d_Sr_init_9 : decode prog_8_method_1_code 9 = .ok (.sipush 3000, 3) := by decide +kernel
theorem d_Sr_init_12 : decode prog_8_method_1_code 12 = .ok (.invokespecial 11, 3) := by decide +kernel
theorem d_Sr_init_15 : decode prog_8_method_1_code 15 = .ok (.putfield 14, 3) := by decide +kernel
theorem d_Sr_init_18 : decode prog_8_method_1_code 18 = .ok (.aload_n 0, 1) := by decide +kernel
theorem d_Sr_init_19 : decode prog_8_method_1_code 19 = .ok (.new 9, 3) := by decide +kernel
theorem d_Sr_init_22 : decode prog_8_method_1_code 22 = .ok (.dup, 1) := by decide +kernel
theorem d_Sr_init_23 : decode prog_8_method_1_code 23 = .ok (.sipush 900, 3) := by decide +kernel
theorem d_Sr_init_26 : decode prog_8_method_1_code 26 = .ok (.invokespecial 11, 3) := by decide +kernel
theorem d_Sr_init_29 : decode prog_8_method_1_code 29 = .ok (.putfield 20, 3) := by decide +kernel
theorem d_Sr_init_32 : decode prog_8_method_1_code 32 = .ok (.aload_n 0, 1) := by decide +kernel
theorem d_Sr_init_33 : decode prog_8_method_1_code 33 = .ok (.bipush (-2), 2) := by decide +kernel
theorem d_Sr_init_35 : decode prog_8_method_1_code 35 = .ok (.putfield 23, 3) := by decide +kernel
theorem d_Sr_init_38 : decode prog_8_method_1_code 38 = .ok (.return_, 1) := by decide +kernel
theorem d_Sr_readStream_0 : decode prog_8_method_2_code 0 = .ok (.aload_n 0, 1) := by decide +kernel
theorem d_Sr_readStream_1 : decode prog_8_method_2_code 1 = .ok (.iconst 0, 1) := by decide +kernel
theorem d_Sr_readStream_2 : decode prog_8_method_2_code 2 = .ok (.putfield 27, 3) := by decide +kernel
theorem d_Sr_readStream_5 : decode prog_8_method_2_code 5 = .ok (.aload_n 0, 1) := by decide +kernel
theorem d_Sr_readStream_6 : decode prog_8_method_2_code 6 = .ok (.iconst 0, 1) := by decide +kernel
theorem d_Sr_readStream_7 : decode prog_8_method_2_code 7 = .ok (.putfield 30, 3) := by decide +kernel
theorem d_Sr_readStream_10 : decode prog_8_method_2_code 10 = .ok (.aload_n 0, 1) := by decide +kernel
theorem d_Sr_readStream_11 : decode prog_8_method_2_code 11 = .ok (.bipush (-2), 2) := by decide +kernel
theorem d_Sr_readStream_13 : decode prog_8_method_2_code 13 = .ok (.putfield 23, 3) := by decide +kernel
theorem d_Sr_readStream_16 : decode prog_8_method_2_code 16 = .ok (.aload_n 0, 1) := by decide +kernel
theorem d_Sr_readStream_17 : decode prog_8_method_2_code 17 = .ok (.getfield 20, 3) := by decide +kernel
theorem d_Sr_readStream_20 : decode prog_8_method_2_code 20 = .ok (.iconst 0, 1) := by decide +kernel
theorem d_Sr_readStream_21 : decode prog_8_method_2_code 21 = .ok (.invokevirtual 33, 3) := by decide +kernel
theorem d_Sr_readStream_24 : decode prog_8_method_2_code 24 = .ok (.aload_n 1, 1) := by decide +kernel
theorem d_Sr_readStream_25 : decode prog_8_method_2_code 25 = .ok (.getfield 36, 3) := by decide +kernel
theorem d_Sr_readStream_28 : decode prog_8_method_2_code 28 = .ok (.getfield 42, 3) := by decide +kernel
theorem d_Sr_readStream_31 : decode prog_8_method_2_code 31 = .ok (.astore_n 2, 1) := by decide +kernel
theorem d_Sr_readStream_32 : decode prog_8_method_2_code 32 = .ok (.aload_n 1, 1) := by decide +kernel
theorem d_Sr_readStream_33 : decode prog_8_method_2_code 33 = .ok (.getfield 48, 3) := by decide +kernel
theorem d_Sr_readStream_36 : decode prog_8_method_2_code 36 = .ok (.astore_n 3, 1) := by decide +kernel
theorem d_Sr_readStream_37 : decode prog_8_method_2_code 37 = .ok (.aload_n 0, 1) := by decide +kernel
theorem d_Sr_readStream_38 : decode prog_8_method_2_code 38 = .ok (.invokevirtual 52, 3) := by decide +kernel
theorem d_Sr_readStream_41 : decode prog_8_method_2_code 41 = .ok (.ifCond .eq 60, 3) := by decide +kernel
theorem d_Sr_readStream_44 : decode prog_8_method_2_code 44 = .ok (.aload_n 0, 1) := by decide +kernel
theorem d_Sr_readStream_45 : decode prog_8_method_2_code 45 = .ok (.getfield 56, 3) := by decide +kernel
theorem d_Sr_readStream_48 : decode prog_8_method_2_code 48 = .ok (.ifCond .eq 34, 3) := by decide +kernel
theorem d_Sr_readStream_51 : decode prog_8_method_2_code 51 = .ok (.aload_n 0, 1) := by decide +kernel
theorem d_Sr_readStream_52 : decode prog_8_method_2_code 52 = .ok (.aload_n 2, 1) := by decide +kernel
theorem d_Sr_readStream_53 : decode prog_8_method_2_code 53 = .ok (.invokevirtual 59, 3) := by decide +kernel
theorem d_Sr_readStream_56 : decode prog_8_method_2_code 56 = .ok (.ifCond .eq 45, 3) := by decide +kernel
theorem d_Sr_readStream_59 : decode prog_8_method_2_code 59 = .ok (.aload_n 0, 1) := by decide +kernel
theorem d_Sr_readStream_60 : decode prog_8_method_2_code 60 = .ok (.aload_n 3, 1) := by decide +kernel
theorem d_Sr_readStream_61 : decode prog_8_method_2_code 61 = .ok (.aload_n 2, 1) := by decide +kernel
theorem d_Sr_readStream_62 : decode prog_8_method_2_code 62 = .ok (.getfield 63, 3) := by decide +kernel
theorem d_Sr_readStream_65 : decode prog_8_method_2_code 65 = .ok (.iconst 2, 1) := by decide +kernel
theorem d_Sr_readStream_66 : decode prog_8_method_2_code 66 = .ok (.iadd, 1) := by decide +kernel
theorem d_Sr_readStream_67 : decode prog_8_method_2_code 67 = .ok (.invokevirtual 68, 3) := by decide +kernel
theorem d_Sr_readStream_70 : decode prog_8_method_2_code 70 = .ok (.ifCond .eq 31, 3) := by decide +kernel
theorem d_Sr_readStream_73 : decode prog_8_method_2_code 73 = .ok (.aload_n 0, 1) := by decide +kernel
theorem d_Sr_readStream_74 : decode prog_8_method_2_code 74 = .ok (.aload_n 3, 1) := by decide +kernel
theorem d_Sr_readStream_75 : decode prog_8_method_2_code 75 = .ok (.aload_n 2, 1) := by decide +kernel
theorem d_Sr_readStream_76 : decode prog_8_method_2_code 76 = .ok (.invokevirtual 72, 3) := by decide +kernel
theorem d_Sr_readStream_79 : decode prog_8_method_2_code 79 = .ok (.ifCond .eq 22, 3) := by decide +kernel
theorem d_Sr_readStream_82 : decode prog_8_method_2_code 82 = .ok (.aload_n 0, 1) := by decide +kernel
theorem d_Sr_readStream_83 : decode prog_8_method_2_code 83 = .ok (.aload_n 1, 1) := by decide +kernel
theorem d_Sr_readStream_84 : decode prog_8_method_2_code 84 = .ok (.invokevirtual 76, 3) := by decide +kernel
theorem d_Sr_readStream_87 : decode prog_8_method_2_code 87 = .ok (.ifCond .eq 14, 3) := by decide +kernel
theorem d_Sr_readStream_90 : decode prog_8_method_2_code 90 = .ok (.aload_n 0, 1) := by decide +kernel
theorem d_Sr_readStream_91 : decode prog_8_method_2_code 91 = .ok (.invokevirtual 80, 3) := by decide +kernel
theorem d_Sr_readStream_94 : decode prog_8_method_2_code 94 = .ok (.ifCond .eq 7, 3) := by decide +kernel
theorem d_Sr_readStream_97 : decode prog_8_method_2_code 97 = .ok (.iconst 1, 1) := by decide +kernel
theorem d_Sr_readStream_98 : decode prog_8_method_2_code 98 = .ok (.goto 4, 3) := by decide +kernel
theorem d_Sr_readStream_101 : decode prog_8_method_2_code 101 = .ok (.iconst 0, 1) := by decide +kernel
theorem d_Sr_readStream_102 : decode prog_8_method_2_code 102 = .ok (.ireturn, 1) := by decide +kernel
theorem d_Sr_fails_0 : decode prog_8_method_3_code 0 = .ok (.aload_n 0, 1) := by decide +kernel
theorem d_Sr_fails_1 : decode prog_8_method_3_code 1 = .ok (.iload_n 1, 1) := by decide +kernel
theorem d_Sr_fails_2 : decode prog_8_method_3_code 2 = .ok (.putfield 30, 3) := by decide +kernel
theorem d_Sr_fails_5 : decode prog_8_method_3_code 5 = .ok (.aload_n 0, 1) := by decide +kernel
theorem d_Sr_fails_6 : decode prog_8_method_3_code 6 = .ok (.iload_n 2, 1) := by decide +kernel
theorem d_Sr_fails_7 : decode prog_8_method_3_code 7 = .ok (.putfield 23, 3) := by decide +kernel
theorem d_Sr_fails_10 : decode prog_8_method_3_code 10 = .ok (.iconst 0, 1) := by decide +kernel
theorem d_Sr_fails_11 : decode prog_8_method_3_code 11 = .ok (.ireturn, 1) := by decide +kernel
theorem d_Sr_tapeEnds_0 : decode prog_8_method_4_code 0 = .ok (.aload_n 0, 1) := by decide +kernel
theorem d_Sr_tapeEnds_1 : decode prog_8_method_4_code 1 = .ok (.iconst 1, 1) := by decide +kernel
theorem d_Sr_tapeEnds_2 : decode prog_8_method_4_code 2 = .ok (.aload_n 0, 1) := by decide +kernel
theorem d_Sr_tapeEnds_3 : decode prog_8_method_4_code 3 = .ok (.getfield 14, 3) := by decide +kernel
theorem d_Sr_tapeEnds_6 : decode prog_8_method_4_code 6 = .ok (.getfield 83, 3) := by decide +kernel
theorem d_Sr_tapeEnds_9 : decode prog_8_method_4_code 9 = .ok (.invokevirtual 84, 3) := by decide +kernel
theorem d_Sr_tapeEnds_12 : decode prog_8_method_4_code 12 = .ok (.ireturn, 1) := by decide +kernel
theorem d_Sr_lacks_0 : decode prog_8_method_5_code 0 = .ok (.iload_n 1, 1) := by decide +kernel
theorem d_Sr_lacks_1 : decode prog_8_method_5_code 1 = .ok (.bipush 8, 2) := by decide +kernel
theorem d_Sr_lacks_3 : decode prog_8_method_5_code 3 = .ok (.aload_n 0, 1) := by decide +kernel
theorem d_Sr_lacks_4 : decode prog_8_method_5_code 4 = .ok (.getfield 14, 3) := by decide +kernel
theorem d_Sr_lacks_7 : decode prog_8_method_5_code 7 = .ok (.getfield 83, 3) := by decide +kernel
theorem d_Sr_lacks_10 : decode prog_8_method_5_code 10 = .ok (.imul, 1) := by decide +kernel
theorem d_Sr_lacks_11 : decode prog_8_method_5_code 11 = .ok (.aload_n 0, 1) := by decide +kernel
theorem d_Sr_lacks_12 : decode prog_8_method_5_code 12 = .ok (.getfield 27, 3) := by decide +kernel
theorem d_Sr_lacks_15 : decode prog_8_method_5_code 15 = .ok (.isub, 1) := by decide +kernel
theorem d_Sr_lacks_16 : decode prog_8_method_5_code 16 = .ok (.if_icmp .le 7, 3) := by decide +kernel
theorem d_Sr_lacks_19 : decode prog_8_method_5_code 19 = .ok (.iconst 1, 1) := by decide +kernel
theorem d_Sr_lacks_20 : decode prog_8_method_5_code 20 = .ok (.goto 4, 3) := by decide +kernel
theorem d_Sr_lacks_23 : decode prog_8_method_5_code 23 = .ok (.iconst 0, 1) := by decide +kernel
theorem d_Sr_lacks_24 : decode prog_8_method_5_code 24 = .ok (.ireturn, 1) := by decide +kernel
theorem d_Sr_next_0 : decode prog_8_method_6_code 0 = .ok (.iconst 0, 1) := by decide +kernel
theorem d_Sr_next_1 : decode prog_8_method_6_code 1 = .ok (.istore_n 2, 1) := by decide +kernel
theorem d_Sr_next_2 : decode prog_8_method_6_code 2 = .ok (.iconst 0, 1) := by decide +kernel
theorem d_Sr_next_3 : decode prog_8_method_6_code 3 = .ok (.istore_n 3, 1) := by decide +kernel
theorem d_Sr_next_4 : decode prog_8_method_6_code 4 = .ok (.iload_n 3, 1) := by decide +kernel
theorem d_Sr_next_5 : decode prog_8_method_6_code 5 = .ok (.iload_n 1, 1) := by decide +kernel
theorem d_Sr_next_6 : decode prog_8_method_6_code 6 = .ok (.if_icmp .ge 56, 3) := by decide +kernel
theorem d_Sr_next_9 : decode prog_8_method_6_code 9 = .ok (.aload_n 0, 1) := by decide +kernel
theorem d_Sr_next_10 : decode prog_8_method_6_code 10 = .ok (.iconst 1, 1) := by decide +kernel
theorem d_Sr_next_11 : decode prog_8_method_6_code 11 = .ok (.invokevirtual 88, 3) := by decide +kernel
theorem d_Sr_next_14 : decode prog_8_method_6_code 14 = .ok (.ifCond .ne 48, 3) := by decide +kernel
theorem d_Sr_next_17 : decode prog_8_method_6_code 17 = .ok (.iload_n 2, 1) := by decide +kernel
theorem d_Sr_next_18 : decode prog_8_method_6_code 18 = .ok (.iconst 1, 1) := by decide +kernel
theorem d_Sr_next_19 : decode prog_8_method_6_code 19 = .ok (.ishl, 1) := by decide +kernel
theorem d_Sr_next_20 : decode prog_8_method_6_code 20 = .ok (.aload_n 0, 1) := by decide +kernel
theorem d_Sr_next_21 : decode prog_8_method_6_code 21 = .ok (.getfield 14, 3) := by decide +kernel
theorem d_Sr_next_24 : decode prog_8_method_6_code 24 = .ok (.aload_n 0, 1) := by decide +kernel
theorem d_Sr_next_25 : decode prog_8_method_6_code 25 = .ok (.invokevirtual 92, 3) := by decide +kernel
theorem d_Sr_next_28 : decode prog_8_method_6_code 28 = .ok (.invokevirtual 96, 3) := by decide +kernel
theorem d_Sr_next_31 : decode prog_8_method_6_code 31 = .ok (.bipush 7, 2) := by decide +kernel
theorem d_Sr_next_33 : decode prog_8_method_6_code 33 = .ok (.aload_n 0, 1) := by decide +kernel
theorem d_Sr_next_34 : decode prog_8_method_6_code 34 = .ok (.getfield 27, 3) := by decide +kernel
theorem d_Sr_next_37 : decode prog_8_method_6_code 37 = .ok (.bipush 8, 2) := by decide +kernel
theorem d_Sr_next_39 : decode prog_8_method_6_code 39 = .ok (.irem, 1) := by decide +kernel
theorem d_Sr_next_40 : decode prog_8_method_6_code 40 = .ok (.isub, 1) := by decide +kernel
theorem d_Sr_next_41 : decode prog_8_method_6_code 41 = .ok (.ishr, 1) := by decide +kernel
theorem d_Sr_next_42 : decode prog_8_method_6_code 42 = .ok (.iconst 1, 1) := by decide +kernel
theorem d_Sr_next_43 : decode prog_8_method_6_code 43 = .ok (.iand, 1) := by decide +kernel
theorem d_Sr_next_44 : decode prog_8_method_6_code 44 = .ok (.ior, 1) := by decide +kernel
theorem d_Sr_next_45 : decode prog_8_method_6_code 45 = .ok (.istore_n 2, 1) := by decide +kernel
theorem d_Sr_next_46 : decode prog_8_method_6_code 46 = .ok (.aload_n 0, 1) := by decide +kernel
theorem d_Sr_next_47 : decode prog_8_method_6_code 47 = .ok (.dup, 1) := by decide +kernel
theorem d_Sr_next_48 : decode prog_8_method_6_code 48 = .ok (.getfield 27, 3) := by decide +kernel
theorem d_Sr_next_51 : decode prog_8_method_6_code 51 = .ok (.iconst 1, 1) := by decide +kernel
theorem d_Sr_next_52 : decode prog_8_method_6_code 52 = .ok (.iadd, 1) := by decide +kernel
theorem d_Sr_next_53 : decode prog_8_method_6_code 53 = .ok (.putfield 27, 3) := by decide +kernel
theorem d_Sr_next_56 : decode prog_8_method_6_code 56 = .ok (.iinc 3 1, 3) := by decide +kernel
theorem d_Sr_next_59 : decode prog_8_method_6_code 59 = .ok (.goto (-55), 3) := by decide +kernel
theorem d_Sr_next_62 : decode prog_8_method_6_code 62 = .ok (.iload_n 2, 1) := by decide +kernel
theorem d_Sr_next_63 : decode prog_8_method_6_code 63 = .ok (.ireturn, 1) := by decide +kernel

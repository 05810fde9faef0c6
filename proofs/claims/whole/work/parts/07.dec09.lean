theorem d_Sw_put_0 : decode prog_9_method_3_code 0 = .ok (.iload_n 2, 1) := by decide +kernel
theorem d_Sw_put_1 : decode prog_9_method_3_code 1 = .ok (.iconst 1, 1) := by decide +kernel
theorem d_Sw_put_2 : decode prog_9_method_3_code 2 = .ok (.isub, 1) := by decide +kernel
theorem d_Sw_put_3 : decode prog_9_method_3_code 3 = .ok (.istore_n 3, 1) := by decide +kernel
theorem d_Sw_put_4 : decode prog_9_method_3_code 4 = .ok (.iload_n 3, 1) := by decide +kernel
theorem d_Sw_put_5 : decode prog_9_method_3_code 5 = .ok (.ifCond .lt 65, 3) := by decide +kernel
theorem d_Sw_put_8 : decode prog_9_method_3_code 8 = .ok (.aload_n 0, 1) := by decide +kernel
theorem d_Sw_put_9 : decode prog_9_method_3_code 9 = .ok (.aload_n 0, 1) := by decide +kernel
theorem d_Sw_put_10 : decode prog_9_method_3_code 10 = .ok (.getfield 23, 3) := by decide +kernel
theorem d_Sw_put_13 : decode prog_9_method_3_code 13 = .ok (.iconst 1, 1) := by decide +kernel
theorem d_Sw_put_14 : decode prog_9_method_3_code 14 = .ok (.ishl, 1) := by decide +kernel
theorem d_Sw_put_15 : decode prog_9_method_3_code 15 = .ok (.iload_n 1, 1) := by decide +kernel
theorem d_Sw_put_16 : decode prog_9_method_3_code 16 = .ok (.iload_n 3, 1) := by decide +kernel
theorem d_Sw_put_17 : decode prog_9_method_3_code 17 = .ok (.iushr, 1) := by decide +kernel
theorem d_Sw_put_18 : decode prog_9_method_3_code 18 = .ok (.iconst 1, 1) := by decide +kernel
theorem d_Sw_put_19 : decode prog_9_method_3_code 19 = .ok (.iand, 1) := by decide +kernel
theorem d_Sw_put_20 : decode prog_9_method_3_code 20 = .ok (.ior, 1) := by decide +kernel
theorem d_Sw_put_21 : decode prog_9_method_3_code 21 = .ok (.putfield 23, 3) := by decide +kernel
theorem d_Sw_put_24 : decode prog_9_method_3_code 24 = .ok (.aload_n 0, 1) := by decide +kernel
theorem d_Sw_put_25 : decode prog_9_method_3_code 25 = .ok (.dup, 1) := by decide +kernel
theorem d_Sw_put_26 : decode prog_9_method_3_code 26 = .ok (.getfield 27, 3) := by decide +kernel
theorem d_Sw_put_29 : decode prog_9_method_3_code 29 = .ok (.iconst 1, 1) := by decide +kernel
theorem d_Sw_put_30 : decode prog_9_method_3_code 30 = .ok (.iadd, 1) := by decide +kernel
theorem d_Sw_put_31 : decode prog_9_method_3_code 31 = .ok (.putfield 27, 3) := by decide +kernel
theorem d_Sw_put_34 : decode prog_9_method_3_code 34 = .ok (.aload_n 0, 1) := by decide +kernel
theorem d_Sw_put_35 : decode prog_9_method_3_code 35 = .ok (.getfield 27, 3) := by decide +kernel
theorem d_Sw_put_38 : decode prog_9_method_3_code 38 = .ok (.bipush 8, 2) := by decide +kernel
theorem d_Sw_put_40 : decode prog_9_method_3_code 40 = .ok (.if_icmp .ne 24, 3) := by decide +kernel
theorem d_Sw_put_43 : decode prog_9_method_3_code 43 = .ok (.aload_n 0, 1) := by decide +kernel
theorem d_Sw_put_44 : decode prog_9_method_3_code 44 = .ok (.getfield 14, 3) := by decide +kernel
theorem d_Sw_put_47 : decode prog_9_method_3_code 47 = .ok (.aload_n 0, 1) := by decide +kernel
theorem d_Sw_put_48 : decode prog_9_method_3_code 48 = .ok (.getfield 23, 3) := by decide +kernel
theorem d_Sw_put_51 : decode prog_9_method_3_code 51 = .ok (.invokevirtual 90, 3) := by decide +kernel
theorem d_Sw_put_54 : decode prog_9_method_3_code 54 = .ok (.aload_n 0, 1) := by decide +kernel
theorem d_Sw_put_55 : decode prog_9_method_3_code 55 = .ok (.iconst 0, 1) := by decide +kernel
theorem d_Sw_put_56 : decode prog_9_method_3_code 56 = .ok (.putfield 23, 3) := by decide +kernel
theorem d_Sw_put_59 : decode prog_9_method_3_code 59 = .ok (.aload_n 0, 1) := by decide +kernel
theorem d_Sw_put_60 : decode prog_9_method_3_code 60 = .ok (.iconst 0, 1) := by decide +kernel
theorem d_Sw_put_61 : decode prog_9_method_3_code 61 = .ok (.putfield 27, 3) := by decide +kernel
theorem d_Sw_put_64 : decode prog_9_method_3_code 64 = .ok (.iinc 3 (-1), 3) := by decide +kernel
theorem d_Sw_put_67 : decode prog_9_method_3_code 67 = .ok (.goto (-63), 3) := by decide +kernel
theorem d_Sw_put_70 : decode prog_9_method_3_code 70 = .ok (.return_, 1) := by decide +kernel
theorem d_Sw_putList_0 : decode prog_9_method_4_code 0 = .ok (.iconst 0, 1) := by decide +kernel
theorem d_Sw_putList_1 : decode prog_9_method_4_code 1 = .ok (.istore_n 2, 1) := by decide +kernel
theorem d_Sw_putList_2 : decode prog_9_method_4_code 2 = .ok (.iconst 0, 1) := by decide +kernel
theorem d_Sw_putList_3 : decode prog_9_method_4_code 3 = .ok (.istore_n 3, 1) := by decide +kernel
theorem d_Sw_putList_4 : decode prog_9_method_4_code 4 = .ok (.iload_n 3, 1) := by decide +kernel
theorem d_Sw_putList_5 : decode prog_9_method_4_code 5 = .ok (.bipush 16, 2) := by decide +kernel
theorem d_Sw_putList_7 : decode prog_9_method_4_code 7 = .ok (.if_icmp .ge 28, 3) := by decide +kernel
theorem d_Sw_putList_10 : decode prog_9_method_4_code 10 = .ok (.iload_n 2, 1) := by decide +kernel
theorem d_Sw_putList_11 : decode prog_9_method_4_code 11 = .ok (.aload_n 1, 1) := by decide +kernel
theorem d_Sw_putList_12 : decode prog_9_method_4_code 12 = .ok (.iload_n 3, 1) := by decide +kernel
theorem d_Sw_putList_13 : decode prog_9_method_4_code 13 = .ok (.invokestatic 93, 3) := by decide +kernel
theorem d_Sw_putList_16 : decode prog_9_method_4_code 16 = .ok (.ifCond .ne 7, 3) := by decide +kernel
theorem d_Sw_putList_19 : decode prog_9_method_4_code 19 = .ok (.iconst 0, 1) := by decide +kernel
theorem d_Sw_putList_20 : decode prog_9_method_4_code 20 = .ok (.goto 7, 3) := by decide +kernel
theorem d_Sw_putList_23 : decode prog_9_method_4_code 23 = .ok (.iload_n 3, 1) := by decide +kernel
theorem d_Sw_putList_24 : decode prog_9_method_4_code 24 = .ok (.invokestatic 97, 3) := by decide +kernel
theorem d_Sw_putList_27 : decode prog_9_method_4_code 27 = .ok (.ior, 1) := by decide +kernel
theorem d_Sw_putList_28 : decode prog_9_method_4_code 28 = .ok (.istore_n 2, 1) := by decide +kernel
theorem d_Sw_putList_29 : decode prog_9_method_4_code 29 = .ok (.iinc 3 1, 3) := by decide +kernel
theorem d_Sw_putList_32 : decode prog_9_method_4_code 32 = .ok (.goto (-28), 3) := by decide +kernel
theorem d_Sw_putList_35 : decode prog_9_method_4_code 35 = .ok (.aload_n 0, 1) := by decide +kernel
theorem d_Sw_putList_36 : decode prog_9_method_4_code 36 = .ok (.iload_n 2, 1) := by decide +kernel
theorem d_Sw_putList_37 : decode prog_9_method_4_code 37 = .ok (.bipush 16, 2) := by decide +kernel
theorem d_Sw_putList_39 : decode prog_9_method_4_code 39 = .ok (.invokevirtual 42, 3) := by decide +kernel
theorem d_Sw_putList_42 : decode prog_9_method_4_code 42 = .ok (.iconst 0, 1) := by decide +kernel
theorem d_Sw_putList_43 : decode prog_9_method_4_code 43 = .ok (.istore_n 3, 1) := by decide +kernel
theorem d_Sw_putList_44 : decode prog_9_method_4_code 44 = .ok (.iload_n 3, 1) := by decide +kernel
theorem d_Sw_putList_45 : decode prog_9_method_4_code 45 = .ok (.bipush 16, 2) := by decide +kernel
theorem d_Sw_putList_47 : decode prog_9_method_4_code 47 = .ok (.if_icmp .ge 29, 3) := by decide +kernel
theorem d_Sw_putList_50 : decode prog_9_method_4_code 50 = .ok (.aload_n 1, 1) := by decide +kernel
theorem d_Sw_putList_51 : decode prog_9_method_4_code 51 = .ok (.iload_n 3, 1) := by decide +kernel
theorem d_Sw_putList_52 : decode prog_9_method_4_code 52 = .ok (.invokestatic 93, 3) := by decide +kernel
theorem d_Sw_putList_55 : decode prog_9_method_4_code 55 = .ok (.istore 4, 2) := by decide +kernel
theorem d_Sw_putList_57 : decode prog_9_method_4_code 57 = .ok (.iload 4, 2) := by decide +kernel
theorem d_Sw_putList_59 : decode prog_9_method_4_code 59 = .ok (.ifCond .eq 11, 3) := by decide +kernel
theorem d_Sw_putList_62 : decode prog_9_method_4_code 62 = .ok (.aload_n 0, 1) := by decide +kernel
theorem d_Sw_putList_63 : decode prog_9_method_4_code 63 = .ok (.iload 4, 2) := by decide +kernel
theorem d_Sw_putList_65 : decode prog_9_method_4_code 65 = .ok (.bipush 16, 2) := by decide +kernel
theorem d_Sw_putList_67 : decode prog_9_method_4_code 67 = .ok (.invokevirtual 42, 3) := by decide +kernel
theorem d_Sw_putList_70 : decode prog_9_method_4_code 70 = .ok (.iinc 3 1, 3) := by decide +kernel
theorem d_Sw_putList_73 : decode prog_9_method_4_code 73 = .ok (.goto (-29), 3) := by decide +kernel
theorem d_Sw_putList_76 : decode prog_9_method_4_code 76 = .ok (.return_, 1) := by decide +kernel
theorem d_Sw_marksIn_0 : decode prog_9_method_5_code 0 = .ok (.iconst 0, 1) := by decide +kernel
theorem d_Sw_marksIn_1 : decode prog_9_method_5_code 1 = .ok (.istore_n 2, 1) := by decide +kernel
theorem d_Sw_marksIn_2 : decode prog_9_method_5_code 2 = .ok (.iconst 0, 1) := by decide +kernel
theorem d_Sw_marksIn_3 : decode prog_9_method_5_code 3 = .ok (.istore_n 3, 1) := by decide +kernel
theorem d_Sw_marksIn_4 : decode prog_9_method_5_code 4 = .ok (.iload_n 3, 1) := by decide +kernel
theorem d_Sw_marksIn_5 : decode prog_9_method_5_code 5 = .ok (.aload_n 0, 1) := by decide +kernel
theorem d_Sw_marksIn_6 : decode prog_9_method_5_code 6 = .ok (.getfield 100, 3) := by decide +kernel
theorem d_Sw_marksIn_9 : decode prog_9_method_5_code 9 = .ok (.if_icmp .ge 36, 3) := by decide +kernel
theorem d_Sw_marksIn_12 : decode prog_9_method_5_code 12 = .ok (.aload_n 0, 1) := by decide +kernel
theorem d_Sw_marksIn_13 : decode prog_9_method_5_code 13 = .ok (.iload_n 3, 1) := by decide +kernel
theorem d_Sw_marksIn_14 : decode prog_9_method_5_code 14 = .ok (.invokevirtual 103, 3) := by decide +kernel
theorem d_Sw_marksIn_17 : decode prog_9_method_5_code 17 = .ok (.istore 4, 2) := by decide +kernel
theorem d_Sw_marksIn_19 : decode prog_9_method_5_code 19 = .ok (.iload 4, 2) := by decide +kernel
theorem d_Sw_marksIn_21 : decode prog_9_method_5_code 21 = .ok (.bipush 16, 2) := by decide +kernel
theorem d_Sw_marksIn_23 : decode prog_9_method_5_code 23 = .ok (.idiv, 1) := by decide +kernel
theorem d_Sw_marksIn_24 : decode prog_9_method_5_code 24 = .ok (.iload_n 1, 1) := by decide +kernel
theorem d_Sw_marksIn_25 : decode prog_9_method_5_code 25 = .ok (.if_icmp .ne 14, 3) := by decide +kernel
theorem d_Sw_marksIn_28 : decode prog_9_method_5_code 28 = .ok (.iload_n 2, 1) := by decide +kernel
theorem d_Sw_marksIn_29 : decode prog_9_method_5_code 29 = .ok (.iload 4, 2) := by decide +kernel
theorem d_Sw_marksIn_31 : decode prog_9_method_5_code 31 = .ok (.bipush 16, 2) := by decide +kernel
theorem d_Sw_marksIn_33 : decode prog_9_method_5_code 33 = .ok (.irem, 1) := by decide +kernel
theorem d_Sw_marksIn_34 : decode prog_9_method_5_code 34 = .ok (.invokestatic 97, 3) := by decide +kernel
theorem d_Sw_marksIn_37 : decode prog_9_method_5_code 37 = .ok (.ior, 1) := by decide +kernel
theorem d_Sw_marksIn_38 : decode prog_9_method_5_code 38 = .ok (.istore_n 2, 1) := by decide +kernel
theorem d_Sw_marksIn_39 : decode prog_9_method_5_code 39 = .ok (.iinc 3 1, 3) := by decide +kernel
theorem d_Sw_marksIn_42 : decode prog_9_method_5_code 42 = .ok (.goto (-38), 3) := by decide +kernel
theorem d_Sw_marksIn_45 : decode prog_9_method_5_code 45 = .ok (.iload_n 2, 1) := by decide +kernel
theorem d_Sw_marksIn_46 : decode prog_9_method_5_code 46 = .ok (.ireturn, 1) := by decide +kernel
theorem d_Sw_markOf_0 : decode prog_9_method_6_code 0 = .ok (.iconst 1, 1) := by decide +kernel
theorem d_Sw_markOf_1 : decode prog_9_method_6_code 1 = .ok (.bipush 15, 2) := by decide +kernel
theorem d_Sw_markOf_3 : decode prog_9_method_6_code 3 = .ok (.iload_n 0, 1) := by decide +kernel
theorem d_Sw_markOf_4 : decode prog_9_method_6_code 4 = .ok (.isub, 1) := by decide +kernel
theorem d_Sw_markOf_5 : decode prog_9_method_6_code 5 = .ok (.ishl, 1) := by decide +kernel
theorem d_Sw_markOf_6 : decode prog_9_method_6_code 6 = .ok (.ireturn, 1) := by decide +kernel
theorem d_Sw_putLengths_0 : decode prog_9_method_7_code 0 = .ok (.aload_n 1, 1) := by decide +kernel
theorem d_Sw_putLengths_1 : decode prog_9_method_7_code 1 = .ok (.iconst 0, 1) := by decide +kernel
theorem d_Sw_putLengths_2 : decode prog_9_method_7_code 2 = .ok (.invokevirtual 106, 3) := by decide +kernel
theorem d_Sw_putLengths_5 : decode prog_9_method_7_code 5 = .ok (.istore_n 2, 1) := by decide +kernel
theorem d_Sw_putLengths_6 : decode prog_9_method_7_code 6 = .ok (.aload_n 0, 1) := by decide +kernel
theorem d_Sw_putLengths_7 : decode prog_9_method_7_code 7 = .ok (.iload_n 2, 1) := by decide +kernel
theorem d_Sw_putLengths_8 : decode prog_9_method_7_code 8 = .ok (.iconst 4, 1) := by decide +kernel
theorem d_Sw_putLengths_9 : decode prog_9_method_7_code 9 = .ok (.invokevirtual 42, 3) := by decide +kernel
theorem d_Sw_putLengths_12 : decode prog_9_method_7_code 12 = .ok (.iconst 0, 1) := by decide +kernel
theorem d_Sw_putLengths_13 : decode prog_9_method_7_code 13 = .ok (.istore_n 3, 1) := by decide +kernel
theorem d_Sw_putLengths_14 : decode prog_9_method_7_code 14 = .ok (.iload_n 3, 1) := by decide +kernel
theorem d_Sw_putLengths_15 : decode prog_9_method_7_code 15 = .ok (.aload_n 1, 1) := by decide +kernel
theorem d_Sw_putLengths_16 : decode prog_9_method_7_code 16 = .ok (.getfield 109, 3) := by decide +kernel
theorem d_Sw_putLengths_19 : decode prog_9_method_7_code 19 = .ok (.if_icmp .ge 58, 3) := by decide +kernel
theorem d_Sw_putLengths_22 : decode prog_9_method_7_code 22 = .ok (.aload_n 1, 1) := by decide +kernel
theorem d_Sw_putLengths_23 : decode prog_9_method_7_code 23 = .ok (.iload_n 3, 1) := by decide +kernel
theorem d_Sw_putLengths_24 : decode prog_9_method_7_code 24 = .ok (.invokevirtual 106, 3) := by decide +kernel
theorem d_Sw_putLengths_27 : decode prog_9_method_7_code 27 = .ok (.istore 4, 2) := by decide +kernel
theorem d_Sw_putLengths_29 : decode prog_9_method_7_code 29 = .ok (.iload_n 2, 1) := by decide +kernel
theorem d_Sw_putLengths_30 : decode prog_9_method_7_code 30 = .ok (.iload 4, 2) := by decide +kernel
theorem d_Sw_putLengths_32 : decode prog_9_method_7_code 32 = .ok (.if_icmp .ge 15, 3) := by decide +kernel
theorem d_Sw_putLengths_35 : decode prog_9_method_7_code 35 = .ok (.aload_n 0, 1) := by decide +kernel
theorem d_Sw_putLengths_36 : decode prog_9_method_7_code 36 = .ok (.iconst 2, 1) := by decide +kernel
theorem d_Sw_putLengths_37 : decode prog_9_method_7_code 37 = .ok (.iconst 2, 1) := by decide +kernel
theorem d_Sw_putLengths_38 : decode prog_9_method_7_code 38 = .ok (.invokevirtual 42, 3) := by decide +kernel
theorem d_Sw_putLengths_41 : decode prog_9_method_7_code 41 = .ok (.iinc 2 1, 3) := by decide +kernel
theorem d_Sw_putLengths_44 : decode prog_9_method_7_code 44 = .ok (.goto (-15), 3) := by decide +kernel
theorem d_Sw_putLengths_47 : decode prog_9_method_7_code 47 = .ok (.iload_n 2, 1) := by decide +kernel
theorem d_Sw_putLengths_48 : decode prog_9_method_7_code 48 = .ok (.iload 4, 2) := by decide +kernel
theorem d_Sw_putLengths_50 : decode prog_9_method_7_code 50 = .ok (.if_icmp .le 15, 3) := by decide +kernel
theorem d_Sw_putLengths_53 : decode prog_9_method_7_code 53 = .ok (.aload_n 0, 1) := by decide +kernel
theorem d_Sw_putLengths_54 : decode prog_9_method_7_code 54 = .ok (.iconst 3, 1) := by decide +kernel
theorem d_Sw_putLengths_55 : decode prog_9_method_7_code 55 = .ok (.iconst 2, 1) := by decide +kernel
theorem d_Sw_putLengths_56 : decode prog_9_method_7_code 56 = .ok (.invokevirtual 42, 3) := by decide +kernel
theorem d_Sw_putLengths_59 : decode prog_9_method_7_code 59 = .ok (.iinc 2 (-1), 3) := by decide +kernel
theorem d_Sw_putLengths_62 : decode prog_9_method_7_code 62 = .ok (.goto (-15), 3) := by decide +kernel
theorem d_Sw_putLengths_65 : decode prog_9_method_7_code 65 = .ok (.aload_n 0, 1) := by decide +kernel
theorem d_Sw_putLengths_66 : decode prog_9_method_7_code 66 = .ok (.iconst 0, 1) := by decide +kernel
theorem d_Sw_putLengths_67 : decode prog_9_method_7_code 67 = .ok (.iconst 1, 1) := by decide +kernel
theorem d_Sw_putLengths_68 : decode prog_9_method_7_code 68 = .ok (.invokevirtual 42, 3) := by decide +kernel
theorem d_Sw_putLengths_71 : decode prog_9_method_7_code 71 = .ok (.iinc 3 1, 3) := by decide +kernel
theorem d_Sw_putLengths_74 : decode prog_9_method_7_code 74 = .ok (.goto (-60), 3) := by decide +kernel
theorem d_Sw_putLengths_77 : decode prog_9_method_7_code 77 = .ok (.return_, 1) := by decide +kernel
theorem d_Sw_putCodes_0 : decode prog_9_method_8_code 0 = .ok (.iconst 0, 1) := by decide +kernel
theorem d_Sw_putCodes_1 : decode prog_9_method_8_code 1 = .ok (.istore_n 3, 1) := by decide +kernel
theorem d_Sw_putCodes_2 : decode prog_9_method_8_code 2 = .ok (.iload_n 3, 1) := by decide +kernel
theorem d_Sw_putCodes_3 : decode prog_9_method_8_code 3 = .ok (.aload_n 1, 1) := by decide +kernel
theorem d_Sw_putCodes_4 : decode prog_9_method_8_code 4 = .ok (.getfield 112, 3) := by decide +kernel
theorem d_Sw_putCodes_7 : decode prog_9_method_8_code 7 = .ok (.if_icmp .ge 32, 3) := by decide +kernel
theorem d_Sw_putCodes_10 : decode prog_9_method_8_code 10 = .ok (.aload_n 1, 1) := by decide +kernel
theorem d_Sw_putCodes_11 : decode prog_9_method_8_code 11 = .ok (.iload_n 3, 1) := by decide +kernel
theorem d_Sw_putCodes_12 : decode prog_9_method_8_code 12 = .ok (.invokevirtual 113, 3) := by decide +kernel
theorem d_Sw_putCodes_15 : decode prog_9_method_8_code 15 = .ok (.istore 4, 2) := by decide +kernel
theorem d_Sw_putCodes_17 : decode prog_9_method_8_code 17 = .ok (.aload_n 0, 1) := by decide +kernel
theorem d_Sw_putCodes_18 : decode prog_9_method_8_code 18 = .ok (.aload_n 2, 1) := by decide +kernel
theorem d_Sw_putCodes_19 : decode prog_9_method_8_code 19 = .ok (.iload 4, 2) := by decide +kernel
theorem d_Sw_putCodes_21 : decode prog_9_method_8_code 21 = .ok (.invokevirtual 114, 3) := by decide +kernel
theorem d_Sw_putCodes_24 : decode prog_9_method_8_code 24 = .ok (.aload_n 2, 1) := by decide +kernel
theorem d_Sw_putCodes_25 : decode prog_9_method_8_code 25 = .ok (.iload 4, 2) := by decide +kernel
theorem d_Sw_putCodes_27 : decode prog_9_method_8_code 27 = .ok (.invokevirtual 106, 3) := by decide +kernel
theorem d_Sw_putCodes_30 : decode prog_9_method_8_code 30 = .ok (.invokevirtual 42, 3) := by decide +kernel
theorem d_Sw_putCodes_33 : decode prog_9_method_8_code 33 = .ok (.iinc 3 1, 3) := by decide +kernel
theorem d_Sw_putCodes_36 : decode prog_9_method_8_code 36 = .ok (.goto (-34), 3) := by decide +kernel
theorem d_Sw_putCodes_39 : decode prog_9_method_8_code 39 = .ok (.return_, 1) := by decide +kernel
theorem d_Sy_init_0 : decode prog_10_method_1_code 0 = .ok (.aload_n 0, 1) := by decide +kernel
theorem d_Sy_init_1 : decode prog_10_method_1_code 1 = .ok (.invokespecial 3, 3) := by decide +kernel
theorem d_Sy_init_4 : decode prog_10_method_1_code 4 = .ok (.aload_n 0, 1) := by decide +kernel
theorem d_Sy_init_5 : decode prog_10_method_1_code 5 = .ok (.new 9, 3) := by decide +kernel
theorem d_Sy_init_8 : decode prog_10_method_1_code 8 = .ok (.dup, 1) := by decide +kernel
theorem d_Sy_init_9 : decode prog_10_method_1_code 9 = .ok (.invokespecial 11, 3) := by decide +kernel
theorem d_Sy_init_12 : decode prog_10_method_1_code 12 = .ok (.putfield 12, 3) := by decide +kernel
theorem d_Sy_init_15 : decode prog_10_method_1_code 15 = .ok (.aload_n 0, 1) := by decide +kernel
theorem d_Sy_init_16 : decode prog_10_method_1_code 16 = .ok (.sipush 901, 3) := by decide +kernel
theorem d_Sy_init_19 : decode prog_10_method_1_code 19 = .ok (.newarray .int, 2) := by decide +kernel
theorem d_Sy_init_21 : decode prog_10_method_1_code 21 = .ok (.putfield 18, 3) := by decide +kernel
theorem d_Sy_init_24 : decode prog_10_method_1_code 24 = .ok (.return_, 1) := by decide +kernel
theorem d_Sy_at_0 : decode prog_10_method_2_code 0 = .ok (.iload_n 1, 1) := by decide +kernel
theorem d_Sy_at_1 : decode prog_10_method_2_code 1 = .ok (.ifCond .lt 20, 3) := by decide +kernel
theorem d_Sy_at_4 : decode prog_10_method_2_code 4 = .ok (.iload_n 1, 1) := by decide +kernel
theorem d_Sy_at_5 : decode prog_10_method_2_code 5 = .ok (.aload_n 0, 1) := by decide +kernel
theorem d_Sy_at_6 : decode prog_10_method_2_code 6 = .ok (.getfield 22, 3) := by decide +kernel
theorem d_Sy_at_9 : decode prog_10_method_2_code 9 = .ok (.if_icmp .ge 12, 3) := by decide +kernel
theorem d_Sy_at_12 : decode prog_10_method_2_code 12 = .ok (.aload_n 0, 1) := by decide +kernel
theorem d_Sy_at_13 : decode prog_10_method_2_code 13 = .ok (.getfield 18, 3) := by decide +kernel
theorem d_Sy_at_16 : decode prog_10_method_2_code 16 = .ok (.iload_n 1, 1) := by decide +kernel
theorem d_Sy_at_17 : decode prog_10_method_2_code 17 = .ok (.iaload, 1) := by decide +kernel
theorem d_Sy_at_18 : decode prog_10_method_2_code 18 = .ok (.goto 5, 3) := by decide +kernel
theorem d_Sy_at_21 : decode prog_10_method_2_code 21 = .ok (.bipush (-2), 2) := by decide +kernel
theorem d_Sy_at_23 : decode prog_10_method_2_code 23 = .ok (.ireturn, 1) := by decide +kernel
theorem d_Sy_makeFrom_0 : decode prog_10_method_3_code 0 = .ok (.aload_n 0, 1) := by decide +kernel
theorem d_Sy_makeFrom_1 : decode prog_10_method_3_code 1 = .ok (.getfield 12, 3) := by decide +kernel
theorem d_Sy_makeFrom_4 : decode prog_10_method_3_code 4 = .ok (.aload_n 1, 1) := by decide +kernel
theorem d_Sy_makeFrom_5 : decode prog_10_method_3_code 5 = .ok (.invokevirtual 26, 3) := by decide +kernel
theorem d_Sy_makeFrom_8 : decode prog_10_method_3_code 8 = .ok (.aload_n 0, 1) := by decide +kernel
theorem d_Sy_makeFrom_9 : decode prog_10_method_3_code 9 = .ok (.iconst 0, 1) := by decide +kernel
theorem d_Sy_makeFrom_10 : decode prog_10_method_3_code 10 = .ok (.putfield 22, 3) := by decide +kernel
theorem d_Sy_makeFrom_13 : decode prog_10_method_3_code 13 = .ok (.aload_n 0, 1) := by decide +kernel
theorem d_Sy_makeFrom_14 : decode prog_10_method_3_code 14 = .ok (.aload_n 0, 1) := by decide +kernel
theorem d_Sy_makeFrom_15 : decode prog_10_method_3_code 15 = .ok (.getfield 12, 3) := by decide +kernel
theorem d_Sy_makeFrom_18 : decode prog_10_method_3_code 18 = .ok (.getfield 30, 3) := by decide +kernel
theorem d_Sy_makeFrom_21 : decode prog_10_method_3_code 21 = .ok (.iconst 1, 1) := by decide +kernel
theorem d_Sy_makeFrom_22 : decode prog_10_method_3_code 22 = .ok (.iadd, 1) := by decide +kernel
theorem d_Sy_makeFrom_23 : decode prog_10_method_3_code 23 = .ok (.putfield 33, 3) := by decide +kernel
theorem d_Sy_makeFrom_26 : decode prog_10_method_3_code 26 = .ok (.iconst 0, 1) := by decide +kernel
theorem d_Sy_makeFrom_27 : decode prog_10_method_3_code 27 = .ok (.istore_n 2, 1) := by decide +kernel
theorem d_Sy_makeFrom_28 : decode prog_10_method_3_code 28 = .ok (.iconst 0, 1) := by decide +kernel
theorem d_Sy_makeFrom_29 : decode prog_10_method_3_code 29 = .ok (.istore_n 3, 1) := by decide +kernel
theorem d_Sy_makeFrom_30 : decode prog_10_method_3_code 30 = .ok (.iload_n 3, 1) := by decide +kernel
theorem d_Sy_makeFrom_31 : decode prog_10_method_3_code 31 = .ok (.aload_n 1, 1) := by decide +kernel
theorem d_Sy_makeFrom_32 : decode prog_10_method_3_code 32 = .ok (.getfield 36, 3) := by decide +kernel
theorem d_Sy_makeFrom_35 : decode prog_10_method_3_code 35 = .ok (.if_icmp .ge 58, 3) := by decide +kernel
theorem d_Sy_makeFrom_38 : decode prog_10_method_3_code 38 = .ok (.aload_n 0, 1) := by decide +kernel
theorem d_Sy_makeFrom_39 : decode prog_10_method_3_code 39 = .ok (.getfield 12, 3) := by decide +kernel
theorem d_Sy_makeFrom_42 : decode prog_10_method_3_code 42 = .ok (.aload_n 1, 1) := by decide +kernel
theorem d_Sy_makeFrom_43 : decode prog_10_method_3_code 43 = .ok (.iload_n 3, 1) := by decide +kernel
theorem d_Sy_makeFrom_44 : decode prog_10_method_3_code 44 = .ok (.invokevirtual 39, 3) := by decide +kernel
theorem d_Sy_makeFrom_47 : decode prog_10_method_3_code 47 = .ok (.invokevirtual 43, 3) := by decide +kernel
theorem d_Sy_makeFrom_50 : decode prog_10_method_3_code 50 = .ok (.istore 4, 2) := by decide +kernel
theorem d_Sy_makeFrom_52 : decode prog_10_method_3_code 52 = .ok (.iload 4, 2) := by decide +kernel
theorem d_Sy_makeFrom_54 : decode prog_10_method_3_code 54 = .ok (.ifCond .ne 9, 3) := by decide +kernel
theorem d_Sy_makeFrom_57 : decode prog_10_method_3_code 57 = .ok (.iinc 2 1, 3) := by decide +kernel
theorem d_Sy_makeFrom_60 : decode prog_10_method_3_code 60 = .ok (.goto 27, 3) := by decide +kernel
theorem d_Sy_makeFrom_63 : decode prog_10_method_3_code 63 = .ok (.aload_n 0, 1) := by decide +kernel
theorem d_Sy_makeFrom_64 : decode prog_10_method_3_code 64 = .ok (.iload_n 2, 1) := by decide +kernel
theorem d_Sy_makeFrom_65 : decode prog_10_method_3_code 65 = .ok (.invokevirtual 46, 3) := by decide +kernel
theorem d_Sy_makeFrom_68 : decode prog_10_method_3_code 68 = .ok (.iconst 0, 1) := by decide +kernel
theorem d_Sy_makeFrom_69 : decode prog_10_method_3_code 69 = .ok (.istore_n 2, 1) := by decide +kernel
theorem d_Sy_makeFrom_70 : decode prog_10_method_3_code 70 = .ok (.aload_n 0, 1) := by decide +kernel
theorem d_Sy_makeFrom_71 : decode prog_10_method_3_code 71 = .ok (.iload 4, 2) := by decide +kernel
theorem d_Sy_makeFrom_73 : decode prog_10_method_3_code 73 = .ok (.iconst 1, 1) := by decide +kernel
theorem d_Sy_makeFrom_74 : decode prog_10_method_3_code 74 = .ok (.iadd, 1) := by decide +kernel
theorem d_Sy_makeFrom_75 : decode prog_10_method_3_code 75 = .ok (.invokevirtual 50, 3) := by decide +kernel
theorem d_Sy_makeFrom_78 : decode prog_10_method_3_code 78 = .ok (.aload_n 0, 1) := by decide +kernel
theorem d_Sy_makeFrom_79 : decode prog_10_method_3_code 79 = .ok (.getfield 12, 3) := by decide +kernel
theorem d_Sy_makeFrom_82 : decode prog_10_method_3_code 82 = .ok (.iload 4, 2) := by decide +kernel
theorem d_Sy_makeFrom_84 : decode prog_10_method_3_code 84 = .ok (.invokevirtual 53, 3) := by decide +kernel
theorem d_Sy_makeFrom_87 : decode prog_10_method_3_code 87 = .ok (.iinc 3 1, 3) := by decide +kernel
theorem d_Sy_makeFrom_90 : decode prog_10_method_3_code 90 = .ok (.goto (-60), 3) := by decide +kernel
theorem d_Sy_makeFrom_93 : decode prog_10_method_3_code 93 = .ok (.aload_n 0, 1) := by decide +kernel
theorem d_Sy_makeFrom_94 : decode prog_10_method_3_code 94 = .ok (.iload_n 2, 1) := by decide +kernel
theorem d_Sy_makeFrom_95 : decode prog_10_method_3_code 95 = .ok (.invokevirtual 46, 3) := by decide +kernel
theorem d_Sy_makeFrom_98 : decode prog_10_method_3_code 98 = .ok (.aload_n 0, 1) := by decide +kernel
theorem d_Sy_makeFrom_99 : decode prog_10_method_3_code 99 = .ok (.aload_n 0, 1) := by decide +kernel
theorem d_Sy_makeFrom_100 : decode prog_10_method_3_code 100 = .ok (.getfield 33, 3) := by decide +kernel
theorem d_Sy_makeFrom_103 : decode prog_10_method_3_code 103 = .ok (.invokevirtual 50, 3) := by decide +kernel
theorem d_Sy_makeFrom_106 : decode prog_10_method_3_code 106 = .ok (.return_, 1) := by decide +kernel
theorem d_Sy_addDigits_0 : decode prog_10_method_4_code 0 = .ok (.iload_n 1, 1) := by decide +kernel
theorem d_Sy_addDigits_1 : decode prog_10_method_4_code 1 = .ok (.istore_n 2, 1) := by decide +kernel
theorem d_Sy_addDigits_2 : decode prog_10_method_4_code 2 = .ok (.iload_n 2, 1) := by decide +kernel
theorem d_Sy_addDigits_3 : decode prog_10_method_4_code 3 = .ok (.ifCond .le 21, 3) := by decide +kernel
theorem d_Sy_addDigits_6 : decode prog_10_method_4_code 6 = .ok (.aload_n 0, 1) := by decide +kernel
theorem d_Sy_addDigits_7 : decode prog_10_method_4_code 7 = .ok (.iload_n 2, 1) := by decide +kernel
theorem d_Sy_addDigits_8 : decode prog_10_method_4_code 8 = .ok (.iconst 1, 1) := by decide +kernel
theorem d_Sy_addDigits_9 : decode prog_10_method_4_code 9 = .ok (.isub, 1) := by decide +kernel
theorem d_Sy_addDigits_10 : decode prog_10_method_4_code 10 = .ok (.iconst 2, 1) := by decide +kernel
theorem d_Sy_addDigits_11 : decode prog_10_method_4_code 11 = .ok (.irem, 1) := by decide +kernel
theorem d_Sy_addDigits_12 : decode prog_10_method_4_code 12 = .ok (.invokevirtual 50, 3) := by decide +kernel
theorem d_Sy_addDigits_15 : decode prog_10_method_4_code 15 = .ok (.iload_n 2, 1) := by decide +kernel
theorem d_Sy_addDigits_16 : decode prog_10_method_4_code 16 = .ok (.iconst 1, 1) := by decide +kernel
theorem d_Sy_addDigits_17 : decode prog_10_method_4_code 17 = .ok (.isub, 1) := by decide +kernel
theorem d_Sy_addDigits_18 : decode prog_10_method_4_code 18 = .ok (.iconst 2, 1) := by decide +kernel
theorem d_Sy_addDigits_19 : decode prog_10_method_4_code 19 = .ok (.idiv, 1) := by decide +kernel
theorem d_Sy_addDigits_20 : decode prog_10_method_4_code 20 = .ok (.istore_n 2, 1) := by decide +kernel
theorem d_Sy_addDigits_21 : decode prog_10_method_4_code 21 = .ok (.goto (-19), 3) := by decide +kernel
theorem d_Sy_addDigits_24 : decode prog_10_method_4_code 24 = .ok (.return_, 1) := by decide +kernel
theorem d_Sy_addSymbol_0 : decode prog_10_method_5_code 0 = .ok (.aload_n 0, 1) := by decide +kernel
theorem d_Sy_addSymbol_1 : decode prog_10_method_5_code 1 = .ok (.getfield 22, 3) := by decide +kernel
theorem d_Sy_addSymbol_4 : decode prog_10_method_5_code 4 = .ok (.aload_n 0, 1) := by decide +kernel
theorem d_Sy_addSymbol_5 : decode prog_10_method_5_code 5 = .ok (.getfield 18, 3) := by decide +kernel
theorem d_Sy_addSymbol_8 : decode prog_10_method_5_code 8 = .ok (.arraylength, 1) := by decide +kernel
theorem d_Sy_addSymbol_9 : decode prog_10_method_5_code 9 = .ok (.if_icmp .ge 23, 3) := by decide +kernel
theorem d_Sy_addSymbol_12 : decode prog_10_method_5_code 12 = .ok (.aload_n 0, 1) := by decide +kernel
theorem d_Sy_addSymbol_13 : decode prog_10_method_5_code 13 = .ok (.getfield 18, 3) := by decide +kernel
theorem d_Sy_addSymbol_16 : decode prog_10_method_5_code 16 = .ok (.aload_n 0, 1) := by decide +kernel
theorem d_Sy_addSymbol_17 : decode prog_10_method_5_code 17 = .ok (.getfield 22, 3) := by decide +kernel
theorem d_Sy_addSymbol_20 : decode prog_10_method_5_code 20 = .ok (.iload_n 1, 1) := by decide +kernel
theorem d_Sy_addSymbol_21 : decode prog_10_method_5_code 21 = .ok (.iastore, 1) := by decide +kernel
theorem d_Sy_addSymbol_22 : decode prog_10_method_5_code 22 = .ok (.aload_n 0, 1) := by decide +kernel
theorem d_Sy_addSymbol_23 : decode prog_10_method_5_code 23 = .ok (.dup, 1) := by decide +kernel
theorem d_Sy_addSymbol_24 : decode prog_10_method_5_code 24 = .ok (.getfield 22, 3) := by decide +kernel
theorem d_Sy_addSymbol_27 : decode prog_10_method_5_code 27 = .ok (.iconst 1, 1) := by decide +kernel
theorem d_Sy_addSymbol_28 : decode prog_10_method_5_code 28 = .ok (.iadd, 1) := by decide +kernel
theorem d_Sy_addSymbol_29 : decode prog_10_method_5_code 29 = .ok (.putfield 22, 3) := by decide +kernel
theorem d_Sy_addSymbol_32 : decode prog_10_method_5_code 32 = .ok (.return_, 1) := by decide +kernel
theorem d_Tu_init_0 : decode prog_11_method_1_code 0 = .ok (.aload_n 0, 1) := by decide +kernel
theorem d_Tu_init_1 : decode prog_11_method_1_code 1 = .ok (.invokespecial 3, 3) := by decide +kernel
theorem d_Tu_init_4 : decode prog_11_method_1_code 4 = .ok (.aload_n 0, 1) := by decide +kernel
theorem d_Tu_init_5 : decode prog_11_method_1_code 5 = .ok (.new 9, 3) := by decide +kernel
theorem d_Tu_init_8 : decode prog_11_method_1_code 8 = .ok (.dup, 1) := by decide +kernel
theorem d_Tu_init_9 : decode prog_11_method_1_code 9 = .ok (.sipush 900, 3) := by decide +kernel
theorem d_Tu_init_12 : decode prog_11_method_1_code 12 = .ok (.invokespecial 11, 3) := by decide +kernel
theorem d_Tu_init_15 : decode prog_11_method_1_code 15 = .ok (.putfield 14, 3) := by decide +kernel
theorem d_Tu_init_18 : decode prog_11_method_1_code 18 = .ok (.aload_n 0, 1) := by decide +kernel
theorem d_Tu_init_19 : decode prog_11_method_1_code 19 = .ok (.sipush 900, 3) := by decide +kernel
theorem d_Tu_init_22 : decode prog_11_method_1_code 22 = .ok (.newarray .int, 2) := by decide +kernel
theorem d_Tu_init_24 : decode prog_11_method_1_code 24 = .ok (.putfield 20, 3) := by decide +kernel
theorem d_Tu_init_27 : decode prog_11_method_1_code 27 = .ok (.aload_n 0, 1) := by decide +kernel
theorem d_Tu_init_28 : decode prog_11_method_1_code 28 = .ok (.sipush 900, 3) := by decide +kernel
theorem d_Tu_init_31 : decode prog_11_method_1_code 31 = .ok (.newarray .int, 2) := by decide +kernel
theorem d_Tu_init_33 : decode prog_11_method_1_code 33 = .ok (.putfield 24, 3) := by decide +kernel
theorem d_Tu_init_36 : decode prog_11_method_1_code 36 = .ok (.aload_n 0, 1) := by decide +kernel
theorem d_Tu_init_37 : decode prog_11_method_1_code 37 = .ok (.sipush 900, 3) := by decide +kernel
theorem d_Tu_init_40 : decode prog_11_method_1_code 40 = .ok (.newarray .int, 2) := by decide +kernel
theorem d_Tu_init_42 : decode prog_11_method_1_code 42 = .ok (.putfield 27, 3) := by decide +kernel
theorem d_Tu_init_45 : decode prog_11_method_1_code 45 = .ok (.aload_n 0, 1) := by decide +kernel
theorem d_Tu_init_46 : decode prog_11_method_1_code 46 = .ok (.sipush 900, 3) := by decide +kernel
theorem d_Tu_init_49 : decode prog_11_method_1_code 49 = .ok (.newarray .int, 2) := by decide +kernel
theorem d_Tu_init_51 : decode prog_11_method_1_code 51 = .ok (.putfield 30, 3) := by decide +kernel
theorem d_Tu_init_54 : decode prog_11_method_1_code 54 = .ok (.aload_n 0, 1) := by decide +kernel
theorem d_Tu_init_55 : decode prog_11_method_1_code 55 = .ok (.sipush 901, 3) := by decide +kernel
theorem d_Tu_init_58 : decode prog_11_method_1_code 58 = .ok (.newarray .int, 2) := by decide +kernel
theorem d_Tu_init_60 : decode prog_11_method_1_code 60 = .ok (.putfield 33, 3) := by decide +kernel
theorem d_Tu_init_63 : decode prog_11_method_1_code 63 = .ok (.return_, 1) := by decide +kernel
theorem d_Tu_turnAt_0 : decode prog_11_method_2_code 0 = .ok (.iload_n 1, 1) := by decide +kernel
theorem d_Tu_turnAt_1 : decode prog_11_method_2_code 1 = .ok (.ifCond .lt 20, 3) := by decide +kernel
theorem d_Tu_turnAt_4 : decode prog_11_method_2_code 4 = .ok (.iload_n 1, 1) := by decide +kernel
theorem d_Tu_turnAt_5 : decode prog_11_method_2_code 5 = .ok (.aload_n 0, 1) := by decide +kernel
theorem d_Tu_turnAt_6 : decode prog_11_method_2_code 6 = .ok (.getfield 36, 3) := by decide +kernel
theorem d_Tu_turnAt_9 : decode prog_11_method_2_code 9 = .ok (.if_icmp .ge 12, 3) := by decide +kernel
theorem d_Tu_turnAt_12 : decode prog_11_method_2_code 12 = .ok (.aload_n 0, 1) := by decide +kernel
theorem d_Tu_turnAt_13 : decode prog_11_method_2_code 13 = .ok (.getfield 20, 3) := by decide +kernel
theorem d_Tu_turnAt_16 : decode prog_11_method_2_code 16 = .ok (.iload_n 1, 1) := by decide +kernel
theorem d_Tu_turnAt_17 : decode prog_11_method_2_code 17 = .ok (.iaload, 1) := by decide +kernel
theorem d_Tu_turnAt_18 : decode prog_11_method_2_code 18 = .ok (.goto 5, 3) := by decide +kernel
theorem d_Tu_turnAt_21 : decode prog_11_method_2_code 21 = .ok (.bipush (-2), 2) := by decide +kernel
theorem d_Tu_turnAt_23 : decode prog_11_method_2_code 23 = .ok (.ireturn, 1) := by decide +kernel
theorem d_Tu_placeOf_0 : decode prog_11_method_3_code 0 = .ok (.iload_n 1, 1) := by decide +kernel
theorem d_Tu_placeOf_1 : decode prog_11_method_3_code 1 = .ok (.ifCond .lt 20, 3) := by decide +kernel
theorem d_Tu_placeOf_4 : decode prog_11_method_3_code 4 = .ok (.iload_n 1, 1) := by decide +kernel
theorem d_Tu_placeOf_5 : decode prog_11_method_3_code 5 = .ok (.aload_n 0, 1) := by decide +kernel
theorem d_Tu_placeOf_6 : decode prog_11_method_3_code 6 = .ok (.getfield 36, 3) := by decide +kernel
theorem d_Tu_placeOf_9 : decode prog_11_method_3_code 9 = .ok (.if_icmp .ge 12, 3) := by decide +kernel
theorem d_Tu_placeOf_12 : decode prog_11_method_3_code 12 = .ok (.aload_n 0, 1) := by decide +kernel
theorem d_Tu_placeOf_13 : decode prog_11_method_3_code 13 = .ok (.getfield 24, 3) := by decide +kernel
theorem d_Tu_placeOf_16 : decode prog_11_method_3_code 16 = .ok (.iload_n 1, 1) := by decide +kernel
theorem d_Tu_placeOf_17 : decode prog_11_method_3_code 17 = .ok (.iaload, 1) := by decide +kernel
theorem d_Tu_placeOf_18 : decode prog_11_method_3_code 18 = .ok (.goto 5, 3) := by decide +kernel
theorem d_Tu_placeOf_21 : decode prog_11_method_3_code 21 = .ok (.bipush (-2), 2) := by decide +kernel
theorem d_Tu_placeOf_23 : decode prog_11_method_3_code 23 = .ok (.ireturn, 1) := by decide +kernel
theorem d_Tu_sortTurns_0 : decode prog_11_method_4_code 0 = .ok (.aload_n 0, 1) := by decide +kernel
theorem d_Tu_sortTurns_1 : decode prog_11_method_4_code 1 = .ok (.aload_n 1, 1) := by decide +kernel
theorem d_Tu_sortTurns_2 : decode prog_11_method_4_code 2 = .ok (.getfield 40, 3) := by decide +kernel
theorem d_Tu_sortTurns_5 : decode prog_11_method_4_code 5 = .ok (.sipush 900, 3) := by decide +kernel
theorem d_Tu_sortTurns_8 : decode prog_11_method_4_code 8 = .ok (.invokestatic 41, 3) := by decide +kernel
theorem d_Tu_sortTurns_11 : decode prog_11_method_4_code 11 = .ok (.putfield 36, 3) := by decide +kernel
theorem d_Tu_sortTurns_14 : decode prog_11_method_4_code 14 = .ok (.iconst 0, 1) := by decide +kernel
theorem d_Tu_sortTurns_15 : decode prog_11_method_4_code 15 = .ok (.istore_n 2, 1) := by decide +kernel
theorem d_Tu_sortTurns_16 : decode prog_11_method_4_code 16 = .ok (.iload_n 2, 1) := by decide +kernel
theorem d_Tu_sortTurns_17 : decode prog_11_method_4_code 17 = .ok (.aload_n 0, 1) := by decide +kernel
theorem d_Tu_sortTurns_18 : decode prog_11_method_4_code 18 = .ok (.getfield 36, 3) := by decide +kernel
theorem d_Tu_sortTurns_21 : decode prog_11_method_4_code 21 = .ok (.if_icmp .ge 20, 3) := by decide +kernel
theorem d_Tu_sortTurns_24 : decode prog_11_method_4_code 24 = .ok (.aload_n 0, 1) := by decide +kernel
theorem d_Tu_sortTurns_25 : decode prog_11_method_4_code 25 = .ok (.getfield 27, 3) := by decide +kernel
theorem d_Tu_sortTurns_28 : decode prog_11_method_4_code 28 = .ok (.iload_n 2, 1) := by decide +kernel
theorem d_Tu_sortTurns_29 : decode prog_11_method_4_code 29 = .ok (.aload_n 1, 1) := by decide +kernel
theorem d_Tu_sortTurns_30 : decode prog_11_method_4_code 30 = .ok (.iload_n 2, 1) := by decide +kernel
theorem d_Tu_sortTurns_31 : decode prog_11_method_4_code 31 = .ok (.invokevirtual 47, 3) := by decide +kernel
theorem d_Tu_sortTurns_34 : decode prog_11_method_4_code 34 = .ok (.iastore, 1) := by decide +kernel
theorem d_Tu_sortTurns_35 : decode prog_11_method_4_code 35 = .ok (.iinc 2 1, 3) := by decide +kernel
theorem d_Tu_sortTurns_38 : decode prog_11_method_4_code 38 = .ok (.goto (-22), 3) := by decide +kernel
theorem d_Tu_sortTurns_41 : decode prog_11_method_4_code 41 = .ok (.aload_n 0, 1) := by decide +kernel
theorem d_Tu_sortTurns_42 : decode prog_11_method_4_code 42 = .ok (.sipush 256, 3) := by decide +kernel
theorem d_Tu_sortTurns_45 : decode prog_11_method_4_code 45 = .ok (.putfield 51, 3) := by decide +kernel
theorem d_Tu_sortTurns_48 : decode prog_11_method_4_code 48 = .ok (.aload_n 0, 1) := by decide +kernel
theorem d_Tu_sortTurns_49 : decode prog_11_method_4_code 49 = .ok (.invokevirtual 54, 3) := by decide +kernel
theorem d_Tu_sortTurns_52 : decode prog_11_method_4_code 52 = .ok (.aload_n 0, 1) := by decide +kernel
theorem d_Tu_sortTurns_53 : decode prog_11_method_4_code 53 = .ok (.invokevirtual 57, 3) := by decide +kernel
theorem d_Tu_sortTurns_56 : decode prog_11_method_4_code 56 = .ok (.aload_n 0, 1) := by decide +kernel
theorem d_Tu_sortTurns_57 : decode prog_11_method_4_code 57 = .ok (.iconst 0, 1) := by decide +kernel
theorem d_Tu_sortTurns_58 : decode prog_11_method_4_code 58 = .ok (.invokevirtual 60, 3) := by decide +kernel
theorem d_Tu_sortTurns_61 : decode prog_11_method_4_code 61 = .ok (.aload_n 0, 1) := by decide +kernel
theorem d_Tu_sortTurns_62 : decode prog_11_method_4_code 62 = .ok (.iconst 0, 1) := by decide +kernel
theorem d_Tu_sortTurns_63 : decode prog_11_method_4_code 63 = .ok (.putfield 63, 3) := by decide +kernel
theorem d_Tu_sortTurns_66 : decode prog_11_method_4_code 66 = .ok (.iconst 1, 1) := by decide +kernel
theorem d_Tu_sortTurns_67 : decode prog_11_method_4_code 67 = .ok (.istore_n 2, 1) := by decide +kernel
theorem d_Tu_sortTurns_68 : decode prog_11_method_4_code 68 = .ok (.iload_n 2, 1) := by decide +kernel
theorem d_Tu_sortTurns_69 : decode prog_11_method_4_code 69 = .ok (.aload_n 0, 1) := by decide +kernel
theorem d_Tu_sortTurns_70 : decode prog_11_method_4_code 70 = .ok (.getfield 36, 3) := by decide +kernel
theorem d_Tu_sortTurns_73 : decode prog_11_method_4_code 73 = .ok (.if_icmp .ge 61, 3) := by decide +kernel
theorem d_Tu_sortTurns_76 : decode prog_11_method_4_code 76 = .ok (.aload_n 0, 1) := by decide +kernel
theorem d_Tu_sortTurns_77 : decode prog_11_method_4_code 77 = .ok (.getfield 51, 3) := by decide +kernel
theorem d_Tu_sortTurns_80 : decode prog_11_method_4_code 80 = .ok (.aload_n 0, 1) := by decide +kernel
theorem d_Tu_sortTurns_81 : decode prog_11_method_4_code 81 = .ok (.getfield 36, 3) := by decide +kernel
theorem d_Tu_sortTurns_84 : decode prog_11_method_4_code 84 = .ok (.if_icmp .ge 50, 3) := by decide +kernel
theorem d_Tu_sortTurns_87 : decode prog_11_method_4_code 87 = .ok (.aload_n 0, 1) := by decide +kernel
theorem d_Tu_sortTurns_88 : decode prog_11_method_4_code 88 = .ok (.getfield 51, 3) := by decide +kernel
theorem d_Tu_sortTurns_91 : decode prog_11_method_4_code 91 = .ok (.istore_n 3, 1) := by decide +kernel
theorem d_Tu_sortTurns_92 : decode prog_11_method_4_code 92 = .ok (.aload_n 0, 1) := by decide +kernel
theorem d_Tu_sortTurns_93 : decode prog_11_method_4_code 93 = .ok (.iload_n 2, 1) := by decide +kernel
theorem d_Tu_sortTurns_94 : decode prog_11_method_4_code 94 = .ok (.invokevirtual 66, 3) := by decide +kernel
theorem d_Tu_sortTurns_97 : decode prog_11_method_4_code 97 = .ok (.aload_n 0, 1) := by decide +kernel
theorem d_Tu_sortTurns_98 : decode prog_11_method_4_code 98 = .ok (.invokevirtual 57, 3) := by decide +kernel
theorem d_Tu_sortTurns_101 : decode prog_11_method_4_code 101 = .ok (.aload_n 0, 1) := by decide +kernel
theorem d_Tu_sortTurns_102 : decode prog_11_method_4_code 102 = .ok (.iload_n 2, 1) := by decide +kernel
theorem d_Tu_sortTurns_103 : decode prog_11_method_4_code 103 = .ok (.invokevirtual 60, 3) := by decide +kernel
theorem d_Tu_sortTurns_106 : decode prog_11_method_4_code 106 = .ok (.aload_n 0, 1) := by decide +kernel
theorem d_Tu_sortTurns_107 : decode prog_11_method_4_code 107 = .ok (.getfield 51, 3) := by decide +kernel
theorem d_Tu_sortTurns_110 : decode prog_11_method_4_code 110 = .ok (.iload_n 3, 1) := by decide +kernel
theorem d_Tu_sortTurns_111 : decode prog_11_method_4_code 111 = .ok (.if_icmp .ne 6, 3) := by decide +kernel
theorem d_Tu_sortTurns_114 : decode prog_11_method_4_code 114 = .ok (.goto 20, 3) := by decide +kernel
theorem d_Tu_sortTurns_117 : decode prog_11_method_4_code 117 = .ok (.aload_n 0, 1) := by decide +kernel
theorem d_Tu_sortTurns_118 : decode prog_11_method_4_code 118 = .ok (.dup, 1) := by decide +kernel
theorem d_Tu_sortTurns_119 : decode prog_11_method_4_code 119 = .ok (.getfield 63, 3) := by decide +kernel
theorem d_Tu_sortTurns_122 : decode prog_11_method_4_code 122 = .ok (.iconst 1, 1) := by decide +kernel
theorem d_Tu_sortTurns_123 : decode prog_11_method_4_code 123 = .ok (.iadd, 1) := by decide +kernel
theorem d_Tu_sortTurns_124 : decode prog_11_method_4_code 124 = .ok (.putfield 63, 3) := by decide +kernel
theorem d_Tu_sortTurns_127 : decode prog_11_method_4_code 127 = .ok (.iload_n 2, 1) := by decide +kernel
theorem d_Tu_sortTurns_128 : decode prog_11_method_4_code 128 = .ok (.iconst 2, 1) := by decide +kernel
theorem d_Tu_sortTurns_129 : decode prog_11_method_4_code 129 = .ok (.imul, 1) := by decide +kernel
theorem d_Tu_sortTurns_130 : decode prog_11_method_4_code 130 = .ok (.istore_n 2, 1) := by decide +kernel
theorem d_Tu_sortTurns_131 : decode prog_11_method_4_code 131 = .ok (.goto (-63), 3) := by decide +kernel
theorem d_Tu_sortTurns_134 : decode prog_11_method_4_code 134 = .ok (.aload_n 0, 1) := by decide +kernel
theorem d_Tu_sortTurns_135 : decode prog_11_method_4_code 135 = .ok (.invokevirtual 54, 3) := by decide +kernel
theorem d_Tu_sortTurns_138 : decode prog_11_method_4_code 138 = .ok (.aload_n 0, 1) := by decide +kernel
theorem d_Tu_sortTurns_139 : decode prog_11_method_4_code 139 = .ok (.invokevirtual 57, 3) := by decide +kernel
theorem d_Tu_sortTurns_142 : decode prog_11_method_4_code 142 = .ok (.aload_n 0, 1) := by decide +kernel
theorem d_Tu_sortTurns_143 : decode prog_11_method_4_code 143 = .ok (.aload_n 1, 1) := by decide +kernel
theorem d_Tu_sortTurns_144 : decode prog_11_method_4_code 144 = .ok (.invokevirtual 69, 3) := by decide +kernel
theorem d_Tu_sortTurns_147 : decode prog_11_method_4_code 147 = .ok (.return_, 1) := by decide +kernel
theorem d_Tu_lineUp_0 : decode prog_11_method_5_code 0 = .ok (.iconst 0, 1) := by decide +kernel
theorem d_Tu_lineUp_1 : decode prog_11_method_5_code 1 = .ok (.istore_n 1, 1) := by decide +kernel
theorem d_Tu_lineUp_2 : decode prog_11_method_5_code 2 = .ok (.iload_n 1, 1) := by decide +kernel
theorem d_Tu_lineUp_3 : decode prog_11_method_5_code 3 = .ok (.aload_n 0, 1) := by decide +kernel
theorem d_Tu_lineUp_4 : decode prog_11_method_5_code 4 = .ok (.getfield 36, 3) := by decide +kernel
theorem d_Tu_lineUp_7 : decode prog_11_method_5_code 7 = .ok (.if_icmp .ge 16, 3) := by decide +kernel
theorem d_Tu_lineUp_10 : decode prog_11_method_5_code 10 = .ok (.aload_n 0, 1) := by decide +kernel
theorem d_Tu_lineUp_11 : decode prog_11_method_5_code 11 = .ok (.getfield 30, 3) := by decide +kernel
theorem d_Tu_lineUp_14 : decode prog_11_method_5_code 14 = .ok (.iload_n 1, 1) := by decide +kernel
theorem d_Tu_lineUp_15 : decode prog_11_method_5_code 15 = .ok (.iload_n 1, 1) := by decide +kernel
theorem d_Tu_lineUp_16 : decode prog_11_method_5_code 16 = .ok (.iastore, 1) := by decide +kernel
theorem d_Tu_lineUp_17 : decode prog_11_method_5_code 17 = .ok (.iinc 1 1, 3) := by decide +kernel
theorem d_Tu_lineUp_20 : decode prog_11_method_5_code 20 = .ok (.goto (-18), 3) := by decide +kernel
theorem d_Tu_lineUp_23 : decode prog_11_method_5_code 23 = .ok (.return_, 1) := by decide +kernel
theorem d_Tu_shift_0 : decode prog_11_method_6_code 0 = .ok (.iconst 0, 1) := by decide +kernel
theorem d_Tu_shift_1 : decode prog_11_method_6_code 1 = .ok (.istore_n 2, 1) := by decide +kernel
theorem d_Tu_shift_2 : decode prog_11_method_6_code 2 = .ok (.iload_n 2, 1) := by decide +kernel
theorem d_Tu_shift_3 : decode prog_11_method_6_code 3 = .ok (.aload_n 0, 1) := by decide +kernel
theorem d_Tu_shift_4 : decode prog_11_method_6_code 4 = .ok (.getfield 36, 3) := by decide +kernel
theorem d_Tu_shift_7 : decode prog_11_method_6_code 7 = .ok (.if_icmp .ge 27, 3) := by decide +kernel
theorem d_Tu_shift_10 : decode prog_11_method_6_code 10 = .ok (.aload_n 0, 1) := by decide +kernel
theorem d_Tu_shift_11 : decode prog_11_method_6_code 11 = .ok (.getfield 30, 3) := by decide +kernel
theorem d_Tu_shift_14 : decode prog_11_method_6_code 14 = .ok (.iload_n 2, 1) := by decide +kernel
theorem d_Tu_shift_15 : decode prog_11_method_6_code 15 = .ok (.aload_n 0, 1) := by decide +kernel
theorem d_Tu_shift_16 : decode prog_11_method_6_code 16 = .ok (.aload_n 0, 1) := by decide +kernel
theorem d_Tu_shift_17 : decode prog_11_method_6_code 17 = .ok (.getfield 20, 3) := by decide +kernel
theorem d_Tu_shift_20 : decode prog_11_method_6_code 20 = .ok (.iload_n 2, 1) := by decide +kernel
theorem d_Tu_shift_21 : decode prog_11_method_6_code 21 = .ok (.iaload, 1) := by decide +kernel
theorem d_Tu_shift_22 : decode prog_11_method_6_code 22 = .ok (.iload_n 1, 1) := by decide +kernel
theorem d_Tu_shift_23 : decode prog_11_method_6_code 23 = .ok (.isub, 1) := by decide +kernel
theorem d_Tu_shift_24 : decode prog_11_method_6_code 24 = .ok (.invokevirtual 73, 3) := by decide +kernel
theorem d_Tu_shift_27 : decode prog_11_method_6_code 27 = .ok (.iastore, 1) := by decide +kernel
theorem d_Tu_shift_28 : decode prog_11_method_6_code 28 = .ok (.iinc 2 1, 3) := by decide +kernel
theorem d_Tu_shift_31 : decode prog_11_method_6_code 31 = .ok (.goto (-29), 3) := by decide +kernel
theorem d_Tu_shift_34 : decode prog_11_method_6_code 34 = .ok (.return_, 1) := by decide +kernel
theorem d_Tu_sortByRank_0 : decode prog_11_method_7_code 0 = .ok (.iconst 0, 1) := by decide +kernel
theorem d_Tu_sortByRank_1 : decode prog_11_method_7_code 1 = .ok (.istore_n 1, 1) := by decide +kernel
theorem d_Tu_sortByRank_2 : decode prog_11_method_7_code 2 = .ok (.iload_n 1, 1) := by decide +kernel
theorem d_Tu_sortByRank_3 : decode prog_11_method_7_code 3 = .ok (.aload_n 0, 1) := by decide +kernel
theorem d_Tu_sortByRank_4 : decode prog_11_method_7_code 4 = .ok (.getfield 51, 3) := by decide +kernel
theorem d_Tu_sortByRank_7 : decode prog_11_method_7_code 7 = .ok (.if_icmp .gt 16, 3) := by decide +kernel
theorem d_Tu_sortByRank_10 : decode prog_11_method_7_code 10 = .ok (.aload_n 0, 1) := by decide +kernel
theorem d_Tu_sortByRank_11 : decode prog_11_method_7_code 11 = .ok (.getfield 33, 3) := by decide +kernel
theorem d_Tu_sortByRank_14 : decode prog_11_method_7_code 14 = .ok (.iload_n 1, 1) := by decide +kernel
theorem d_Tu_sortByRank_15 : decode prog_11_method_7_code 15 = .ok (.iconst 0, 1) := by decide +kernel
theorem d_Tu_sortByRank_16 : decode prog_11_method_7_code 16 = .ok (.iastore, 1) := by decide +kernel
theorem d_Tu_sortByRank_17 : decode prog_11_method_7_code 17 = .ok (.iinc 1 1, 3) := by decide +kernel
theorem d_Tu_sortByRank_20 : decode prog_11_method_7_code 20 = .ok (.goto (-18), 3) := by decide +kernel
theorem d_Tu_sortByRank_23 : decode prog_11_method_7_code 23 = .ok (.iconst 0, 1) := by decide +kernel
theorem d_Tu_sortByRank_24 : decode prog_11_method_7_code 24 = .ok (.istore_n 1, 1) := by decide +kernel
theorem d_Tu_sortByRank_25 : decode prog_11_method_7_code 25 = .ok (.iload_n 1, 1) := by decide +kernel
theorem d_Tu_sortByRank_26 : decode prog_11_method_7_code 26 = .ok (.aload_n 0, 1) := by decide +kernel
theorem d_Tu_sortByRank_27 : decode prog_11_method_7_code 27 = .ok (.getfield 36, 3) := by decide +kernel
theorem d_Tu_sortByRank_30 : decode prog_11_method_7_code 30 = .ok (.if_icmp .ge 26, 3) := by decide +kernel
theorem d_Tu_sortByRank_33 : decode prog_11_method_7_code 33 = .ok (.aload_n 0, 1) := by decide +kernel
theorem d_Tu_sortByRank_34 : decode prog_11_method_7_code 34 = .ok (.getfield 33, 3) := by decide +kernel
theorem d_Tu_sortByRank_37 : decode prog_11_method_7_code 37 = .ok (.aload_n 0, 1) := by decide +kernel
theorem d_Tu_sortByRank_38 : decode prog_11_method_7_code 38 = .ok (.getfield 27, 3) := by decide +kernel
theorem d_Tu_sortByRank_41 : decode prog_11_method_7_code 41 = .ok (.iload_n 1, 1) := by decide +kernel
theorem d_Tu_sortByRank_42 : decode prog_11_method_7_code 42 = .ok (.iaload, 1) := by decide +kernel
theorem d_Tu_sortByRank_43 : decode prog_11_method_7_code 43 = .ok (.iconst 1, 1) := by decide +kernel
theorem d_Tu_sortByRank_44 : decode prog_11_method_7_code 44 = .ok (.iadd, 1) := by decide +kernel
theorem d_Tu_sortByRank_45 : decode prog_11_method_7_code 45 = .ok (.dup2, 1) := by decide +kernel
theorem d_Tu_sortByRank_46 : decode prog_11_method_7_code 46 = .ok (.iaload, 1) := by decide +kernel
theorem d_Tu_sortByRank_47 : decode prog_11_method_7_code 47 = .ok (.iconst 1, 1) := by decide +kernel
theorem d_Tu_sortByRank_48 : decode prog_11_method_7_code 48 = .ok (.iadd, 1) := by decide +kernel
theorem d_Tu_sortByRank_49 : decode prog_11_method_7_code 49 = .ok (.iastore, 1) := by decide +kernel
theorem d_Tu_sortByRank_50 : decode prog_11_method_7_code 50 = .ok (.iinc 1 1, 3) := by decide +kernel
theorem d_Tu_sortByRank_53 : decode prog_11_method_7_code 53 = .ok (.goto (-28), 3) := by decide +kernel
theorem d_Tu_sortByRank_56 : decode prog_11_method_7_code 56 = .ok (.iconst 0, 1) := by decide +kernel
theorem d_Tu_sortByRank_57 : decode prog_11_method_7_code 57 = .ok (.istore_n 1, 1) := by decide +kernel
theorem d_Tu_sortByRank_58 : decode prog_11_method_7_code 58 = .ok (.iload_n 1, 1) := by decide +kernel
theorem d_Tu_sortByRank_59 : decode prog_11_method_7_code 59 = .ok (.aload_n 0, 1) := by decide +kernel
theorem d_Tu_sortByRank_60 : decode prog_11_method_7_code 60 = .ok (.getfield 51, 3) := by decide +kernel
theorem d_Tu_sortByRank_63 : decode prog_11_method_7_code 63 = .ok (.if_icmp .ge 26, 3) := by decide +kernel
theorem d_Tu_sortByRank_66 : decode prog_11_method_7_code 66 = .ok (.aload_n 0, 1) := by decide +kernel
theorem d_Tu_sortByRank_67 : decode prog_11_method_7_code 67 = .ok (.getfield 33, 3) := by decide +kernel
theorem d_Tu_sortByRank_70 : decode prog_11_method_7_code 70 = .ok (.iload_n 1, 1) := by decide +kernel
theorem d_Tu_sortByRank_71 : decode prog_11_method_7_code 71 = .ok (.iconst 1, 1) := by decide +kernel
theorem d_Tu_sortByRank_72 : decode prog_11_method_7_code 72 = .ok (.iadd, 1) := by decide +kernel
theorem d_Tu_sortByRank_73 : decode prog_11_method_7_code 73 = .ok (.dup2, 1) := by decide +kernel
theorem d_Tu_sortByRank_74 : decode prog_11_method_7_code 74 = .ok (.iaload, 1) := by decide +kernel
theorem d_Tu_sortByRank_75 : decode prog_11_method_7_code 75 = .ok (.aload_n 0, 1) := by decide +kernel
theorem d_Tu_sortByRank_76 : decode prog_11_method_7_code 76 = .ok (.getfield 33, 3) := by decide +kernel
theorem d_Tu_sortByRank_79 : decode prog_11_method_7_code 79 = .ok (.iload_n 1, 1) := by decide +kernel
theorem d_Tu_sortByRank_80 : decode prog_11_method_7_code 80 = .ok (.iaload, 1) := by decide +kernel
theorem d_Tu_sortByRank_81 : decode prog_11_method_7_code 81 = .ok (.iadd, 1) := by decide +kernel
theorem d_Tu_sortByRank_82 : decode prog_11_method_7_code 82 = .ok (.iastore, 1) := by decide +kernel
theorem d_Tu_sortByRank_83 : decode prog_11_method_7_code 83 = .ok (.iinc 1 1, 3) := by decide +kernel
theorem d_Tu_sortByRank_86 : decode prog_11_method_7_code 86 = .ok (.goto (-28), 3) := by decide +kernel
theorem d_Tu_sortByRank_89 : decode prog_11_method_7_code 89 = .ok (.iconst 0, 1) := by decide +kernel
theorem d_Tu_sortByRank_90 : decode prog_11_method_7_code 90 = .ok (.istore_n 1, 1) := by decide +kernel
theorem d_Tu_sortByRank_91 : decode prog_11_method_7_code 91 = .ok (.iload_n 1, 1) := by decide +kernel
theorem d_Tu_sortByRank_92 : decode prog_11_method_7_code 92 = .ok (.aload_n 0, 1) := by decide +kernel
theorem d_Tu_sortByRank_93 : decode prog_11_method_7_code 93 = .ok (.getfield 36, 3) := by decide +kernel
theorem d_Tu_sortByRank_96 : decode prog_11_method_7_code 96 = .ok (.if_icmp .ge 48, 3) := by decide +kernel
theorem d_Tu_sortByRank_99 : decode prog_11_method_7_code 99 = .ok (.aload_n 0, 1) := by decide +kernel
theorem d_Tu_sortByRank_100 : decode prog_11_method_7_code 100 = .ok (.getfield 27, 3) := by decide +kernel
theorem d_Tu_sortByRank_103 : decode prog_11_method_7_code 103 = .ok (.aload_n 0, 1) := by decide +kernel
theorem d_Tu_sortByRank_104 : decode prog_11_method_7_code 104 = .ok (.getfield 30, 3) := by decide +kernel
theorem d_Tu_sortByRank_107 : decode prog_11_method_7_code 107 = .ok (.iload_n 1, 1) := by decide +kernel
theorem d_Tu_sortByRank_108 : decode prog_11_method_7_code 108 = .ok (.iaload, 1) := by decide +kernel
theorem d_Tu_sortByRank_109 : decode prog_11_method_7_code 109 = .ok (.iaload, 1) := by decide +kernel
theorem d_Tu_sortByRank_110 : decode prog_11_method_7_code 110 = .ok (.istore_n 2, 1) := by decide +kernel
theorem d_Tu_sortByRank_111 : decode prog_11_method_7_code 111 = .ok (.aload_n 0, 1) := by decide +kernel
theorem d_Tu_sortByRank_112 : decode prog_11_method_7_code 112 = .ok (.getfield 20, 3) := by decide +kernel
theorem d_Tu_sortByRank_115 : decode prog_11_method_7_code 115 = .ok (.aload_n 0, 1) := by decide +kernel
theorem d_Tu_sortByRank_116 : decode prog_11_method_7_code 116 = .ok (.getfield 33, 3) := by decide +kernel
theorem d_Tu_sortByRank_119 : decode prog_11_method_7_code 119 = .ok (.iload_n 2, 1) := by decide +kernel
theorem d_Tu_sortByRank_120 : decode prog_11_method_7_code 120 = .ok (.iaload, 1) := by decide +kernel
theorem d_Tu_sortByRank_121 : decode prog_11_method_7_code 121 = .ok (.aload_n 0, 1) := by decide +kernel
theorem d_Tu_sortByRank_122 : decode prog_11_method_7_code 122 = .ok (.getfield 30, 3) := by decide +kernel
theorem d_Tu_sortByRank_125 : decode prog_11_method_7_code 125 = .ok (.iload_n 1, 1) := by decide +kernel
theorem d_Tu_sortByRank_126 : decode prog_11_method_7_code 126 = .ok (.iaload, 1) := by decide +kernel
theorem d_Tu_sortByRank_127 : decode prog_11_method_7_code 127 = .ok (.iastore, 1) := by decide +kernel
theorem d_Tu_sortByRank_128 : decode prog_11_method_7_code 128 = .ok (.aload_n 0, 1) := by decide +kernel
theorem d_Tu_sortByRank_129 : decode prog_11_method_7_code 129 = .ok (.getfield 33, 3) := by decide +kernel
theorem d_Tu_sortByRank_132 : decode prog_11_method_7_code 132 = .ok (.iload_n 2, 1) := by decide +kernel
theorem d_Tu_sortByRank_133 : decode prog_11_method_7_code 133 = .ok (.dup2, 1) := by decide +kernel
theorem d_Tu_sortByRank_134 : decode prog_11_method_7_code 134 = .ok (.iaload, 1) := by decide +kernel
theorem d_Tu_sortByRank_135 : decode prog_11_method_7_code 135 = .ok (.iconst 1, 1) := by decide +kernel
theorem d_Tu_sortByRank_136 : decode prog_11_method_7_code 136 = .ok (.iadd, 1) := by decide +kernel
theorem d_Tu_sortByRank_137 : decode prog_11_method_7_code 137 = .ok (.iastore, 1) := by decide +kernel
theorem d_Tu_sortByRank_138 : decode prog_11_method_7_code 138 = .ok (.iinc 1 1, 3) := by decide +kernel
theorem d_Tu_sortByRank_141 : decode prog_11_method_7_code 141 = .ok (.goto (-50), 3) := by decide +kernel
theorem d_Tu_sortByRank_144 : decode prog_11_method_7_code 144 = .ok (.return_, 1) := by decide +kernel
theorem d_Tu_numberRanks_0 : decode prog_11_method_8_code 0 = .ok (.iconst (-1), 1) := by decide +kernel
theorem d_Tu_numberRanks_1 : decode prog_11_method_8_code 1 = .ok (.istore_n 2, 1) := by decide +kernel
theorem d_Tu_numberRanks_2 : decode prog_11_method_8_code 2 = .ok (.iconst (-1), 1) := by decide +kernel
theorem d_Tu_numberRanks_3 : decode prog_11_method_8_code 3 = .ok (.istore_n 3, 1) := by decide +kernel
theorem d_Tu_numberRanks_4 : decode prog_11_method_8_code 4 = .ok (.iconst (-1), 1) := by decide +kernel
theorem d_Tu_numberRanks_5 : decode prog_11_method_8_code 5 = .ok (.istore 4, 2) := by decide +kernel
theorem d_Tu_numberRanks_7 : decode prog_11_method_8_code 7 = .ok (.iconst 0, 1) := by decide +kernel
theorem d_Tu_numberRanks_8 : decode prog_11_method_8_code 8 = .ok (.istore 5, 2) := by decide +kernel
theorem d_Tu_numberRanks_10 : decode prog_11_method_8_code 10 = .ok (.iload 5, 2) := by decide +kernel
theorem d_Tu_numberRanks_12 : decode prog_11_method_8_code 12 = .ok (.aload_n 0, 1) := by decide +kernel
theorem d_Tu_numberRanks_13 : decode prog_11_method_8_code 13 = .ok (.getfield 36, 3) := by decide +kernel
theorem d_Tu_numberRanks_16 : decode prog_11_method_8_code 16 = .ok (.if_icmp .ge 74, 3) := by decide +kernel
theorem d_Tu_numberRanks_19 : decode prog_11_method_8_code 19 = .ok (.aload_n 0, 1) := by decide +kernel
theorem d_Tu_numberRanks_20 : decode prog_11_method_8_code 20 = .ok (.getfield 20, 3) := by decide +kernel
theorem d_Tu_numberRanks_23 : decode prog_11_method_8_code 23 = .ok (.iload 5, 2) := by decide +kernel
theorem d_Tu_numberRanks_25 : decode prog_11_method_8_code 25 = .ok (.iaload, 1) := by decide +kernel
theorem d_Tu_numberRanks_26 : decode prog_11_method_8_code 26 = .ok (.istore 6, 2) := by decide +kernel
theorem d_Tu_numberRanks_28 : decode prog_11_method_8_code 28 = .ok (.aload_n 0, 1) := by decide +kernel
theorem d_Tu_numberRanks_29 : decode prog_11_method_8_code 29 = .ok (.getfield 27, 3) := by decide +kernel
theorem d_Tu_numberRanks_32 : decode prog_11_method_8_code 32 = .ok (.aload_n 0, 1) := by decide +kernel
theorem d_Tu_numberRanks_33 : decode prog_11_method_8_code 33 = .ok (.iload 6, 2) := by decide +kernel
theorem d_Tu_numberRanks_35 : decode prog_11_method_8_code 35 = .ok (.iload_n 1, 1) := by decide +kernel
theorem d_Tu_numberRanks_36 : decode prog_11_method_8_code 36 = .ok (.iadd, 1) := by decide +kernel
theorem d_Tu_numberRanks_37 : decode prog_11_method_8_code 37 = .ok (.invokevirtual 73, 3) := by decide +kernel
theorem d_Tu_numberRanks_40 : decode prog_11_method_8_code 40 = .ok (.iaload, 1) := by decide +kernel
theorem d_Tu_numberRanks_41 : decode prog_11_method_8_code 41 = .ok (.istore 7, 2) := by decide +kernel
theorem d_Tu_numberRanks_43 : decode prog_11_method_8_code 43 = .ok (.aload_n 0, 1) := by decide +kernel
theorem d_Tu_numberRanks_44 : decode prog_11_method_8_code 44 = .ok (.getfield 27, 3) := by decide +kernel
theorem d_Tu_numberRanks_47 : decode prog_11_method_8_code 47 = .ok (.iload 6, 2) := by decide +kernel
theorem d_Tu_numberRanks_49 : decode prog_11_method_8_code 49 = .ok (.iaload, 1) := by decide +kernel
theorem d_Tu_numberRanks_50 : decode prog_11_method_8_code 50 = .ok (.iload_n 3, 1) := by decide +kernel
theorem d_Tu_numberRanks_51 : decode prog_11_method_8_code 51 = .ok (.if_icmp .ne 10, 3) := by decide +kernel
theorem d_Tu_numberRanks_54 : decode prog_11_method_8_code 54 = .ok (.iload 7, 2) := by decide +kernel
theorem d_Tu_numberRanks_56 : decode prog_11_method_8_code 56 = .ok (.iload 4, 2) := by decide +kernel
theorem d_Tu_numberRanks_58 : decode prog_11_method_8_code 58 = .ok (.if_icmp .eq 6, 3) := by decide +kernel
theorem d_Tu_numberRanks_61 : decode prog_11_method_8_code 61 = .ok (.iinc 2 1, 3) := by decide +kernel
theorem d_Tu_numberRanks_64 : decode prog_11_method_8_code 64 = .ok (.aload_n 0, 1) := by decide +kernel
theorem d_Tu_numberRanks_65 : decode prog_11_method_8_code 65 = .ok (.getfield 27, 3) := by decide +kernel
theorem d_Tu_numberRanks_68 : decode prog_11_method_8_code 68 = .ok (.iload 6, 2) := by decide +kernel
theorem d_Tu_numberRanks_70 : decode prog_11_method_8_code 70 = .ok (.iaload, 1) := by decide +kernel
theorem d_Tu_numberRanks_71 : decode prog_11_method_8_code 71 = .ok (.istore_n 3, 1) := by decide +kernel
theorem d_Tu_numberRanks_72 : decode prog_11_method_8_code 72 = .ok (.iload 7, 2) := by decide +kernel
theorem d_Tu_numberRanks_74 : decode prog_11_method_8_code 74 = .ok (.istore 4, 2) := by decide +kernel
theorem d_Tu_numberRanks_76 : decode prog_11_method_8_code 76 = .ok (.aload_n 0, 1) := by decide +kernel
theorem d_Tu_numberRanks_77 : decode prog_11_method_8_code 77 = .ok (.getfield 24, 3) := by decide +kernel
theorem d_Tu_numberRanks_80 : decode prog_11_method_8_code 80 = .ok (.iload 6, 2) := by decide +kernel
theorem d_Tu_numberRanks_82 : decode prog_11_method_8_code 82 = .ok (.iload_n 2, 1) := by decide +kernel
theorem d_Tu_numberRanks_83 : decode prog_11_method_8_code 83 = .ok (.iastore, 1) := by decide +kernel
theorem d_Tu_numberRanks_84 : decode prog_11_method_8_code 84 = .ok (.iinc 5 1, 3) := by decide +kernel
theorem d_Tu_numberRanks_87 : decode prog_11_method_8_code 87 = .ok (.goto (-77), 3) := by decide +kernel
theorem d_Tu_numberRanks_90 : decode prog_11_method_8_code 90 = .ok (.aload_n 0, 1) := by decide +kernel
theorem d_Tu_numberRanks_91 : decode prog_11_method_8_code 91 = .ok (.getfield 24, 3) := by decide +kernel
theorem d_Tu_numberRanks_94 : decode prog_11_method_8_code 94 = .ok (.iconst 0, 1) := by decide +kernel
theorem d_Tu_numberRanks_95 : decode prog_11_method_8_code 95 = .ok (.aload_n 0, 1) := by decide +kernel
theorem d_Tu_numberRanks_96 : decode prog_11_method_8_code 96 = .ok (.getfield 27, 3) := by decide +kernel
theorem d_Tu_numberRanks_99 : decode prog_11_method_8_code 99 = .ok (.iconst 0, 1) := by decide +kernel
theorem d_Tu_numberRanks_100 : decode prog_11_method_8_code 100 = .ok (.aload_n 0, 1) := by decide +kernel
theorem d_Tu_numberRanks_101 : decode prog_11_method_8_code 101 = .ok (.getfield 36, 3) := by decide +kernel
theorem d_Tu_numberRanks_104 : decode prog_11_method_8_code 104 = .ok (.invokestatic 76, 3) := by decide +kernel
theorem d_Tu_numberRanks_107 : decode prog_11_method_8_code 107 = .ok (.aload_n 0, 1) := by decide +kernel
theorem d_Tu_numberRanks_108 : decode prog_11_method_8_code 108 = .ok (.iload_n 2, 1) := by decide +kernel
theorem d_Tu_numberRanks_109 : decode prog_11_method_8_code 109 = .ok (.iconst 1, 1) := by decide +kernel
theorem d_Tu_numberRanks_110 : decode prog_11_method_8_code 110 = .ok (.iadd, 1) := by decide +kernel
theorem d_Tu_numberRanks_111 : decode prog_11_method_8_code 111 = .ok (.putfield 51, 3) := by decide +kernel
theorem d_Tu_numberRanks_114 : decode prog_11_method_8_code 114 = .ok (.return_, 1) := by decide +kernel

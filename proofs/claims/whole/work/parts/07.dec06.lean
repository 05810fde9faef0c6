theorem d_Mo_faultAt_0 : decode prog_13_method_56_code 0 = .ok (.aload_n 0, 1) := by decide +kernel
theorem d_Mo_faultAt_1 : decode prog_13_method_56_code 1 = .ok (.getfield 63, 3) := by decide +kernel
theorem d_Mo_faultAt_4 : decode prog_13_method_56_code 4 = .ok (.ireturn, 1) := by decide +kernel
theorem d_Bn_init_0 : decode prog_2_method_1_code 0 = .ok (.aload_n 0, 1) := by decide +kernel
theorem d_Bn_init_1 : decode prog_2_method_1_code 1 = .ok (.invokespecial 3, 3) := by decide +kernel
theorem d_Bn_init_4 : decode prog_2_method_1_code 4 = .ok (.aload_n 0, 1) := by decide +kernel
theorem d_Bn_init_5 : decode prog_2_method_1_code 5 = .ok (.new 9, 3) := by decide +kernel
theorem d_Bn_init_8 : decode prog_2_method_1_code 8 = .ok (.dup, 1) := by decide +kernel
theorem d_Bn_init_9 : decode prog_2_method_1_code 9 = .ok (.invokespecial 11, 3) := by decide +kernel
theorem d_Bn_init_12 : decode prog_2_method_1_code 12 = .ok (.putfield 12, 3) := by decide +kernel
theorem d_Bn_init_15 : decode prog_2_method_1_code 15 = .ok (.aload_n 0, 1) := by decide +kernel
theorem d_Bn_init_16 : decode prog_2_method_1_code 16 = .ok (.new 18, 3) := by decide +kernel
theorem d_Bn_init_19 : decode prog_2_method_1_code 19 = .ok (.dup, 1) := by decide +kernel
theorem d_Bn_init_20 : decode prog_2_method_1_code 20 = .ok (.invokespecial 20, 3) := by decide +kernel
theorem d_Bn_init_23 : decode prog_2_method_1_code 23 = .ok (.putfield 21, 3) := by decide +kernel
theorem d_Bn_init_26 : decode prog_2_method_1_code 26 = .ok (.aload_n 0, 1) := by decide +kernel
theorem d_Bn_init_27 : decode prog_2_method_1_code 27 = .ok (.new 25, 3) := by decide +kernel
theorem d_Bn_init_30 : decode prog_2_method_1_code 30 = .ok (.dup, 1) := by decide +kernel
theorem d_Bn_init_31 : decode prog_2_method_1_code 31 = .ok (.invokespecial 27, 3) := by decide +kernel
theorem d_Bn_init_34 : decode prog_2_method_1_code 34 = .ok (.putfield 28, 3) := by decide +kernel
theorem d_Bn_init_37 : decode prog_2_method_1_code 37 = .ok (.aload_n 0, 1) := by decide +kernel
theorem d_Bn_init_38 : decode prog_2_method_1_code 38 = .ok (.new 32, 3) := by decide +kernel
theorem d_Bn_init_41 : decode prog_2_method_1_code 41 = .ok (.dup, 1) := by decide +kernel
theorem d_Bn_init_42 : decode prog_2_method_1_code 42 = .ok (.invokespecial 34, 3) := by decide +kernel
theorem d_Bn_init_45 : decode prog_2_method_1_code 45 = .ok (.putfield 35, 3) := by decide +kernel
theorem d_Bn_init_48 : decode prog_2_method_1_code 48 = .ok (.aload_n 0, 1) := by decide +kernel
theorem d_Bn_init_49 : decode prog_2_method_1_code 49 = .ok (.new 39, 3) := by decide +kernel
theorem d_Bn_init_52 : decode prog_2_method_1_code 52 = .ok (.dup, 1) := by decide +kernel
theorem d_Bn_init_53 : decode prog_2_method_1_code 53 = .ok (.sipush 900, 3) := by decide +kernel
theorem d_Bn_init_56 : decode prog_2_method_1_code 56 = .ok (.invokespecial 41, 3) := by decide +kernel
theorem d_Bn_init_59 : decode prog_2_method_1_code 59 = .ok (.putfield 44, 3) := by decide +kernel
theorem d_Bn_init_62 : decode prog_2_method_1_code 62 = .ok (.aload_n 0, 1) := by decide +kernel
theorem d_Bn_init_63 : decode prog_2_method_1_code 63 = .ok (.new 39, 3) := by decide +kernel
theorem d_Bn_init_66 : decode prog_2_method_1_code 66 = .ok (.dup, 1) := by decide +kernel
theorem d_Bn_init_67 : decode prog_2_method_1_code 67 = .ok (.sipush 600, 3) := by decide +kernel
theorem d_Bn_init_70 : decode prog_2_method_1_code 70 = .ok (.invokespecial 41, 3) := by decide +kernel
theorem d_Bn_init_73 : decode prog_2_method_1_code 73 = .ok (.putfield 48, 3) := by decide +kernel
theorem d_Bn_init_76 : decode prog_2_method_1_code 76 = .ok (.aload_n 0, 1) := by decide +kernel
theorem d_Bn_init_77 : decode prog_2_method_1_code 77 = .ok (.new 39, 3) := by decide +kernel
theorem d_Bn_init_80 : decode prog_2_method_1_code 80 = .ok (.dup, 1) := by decide +kernel
theorem d_Bn_init_81 : decode prog_2_method_1_code 81 = .ok (.sipush 750, 3) := by decide +kernel
theorem d_Bn_init_84 : decode prog_2_method_1_code 84 = .ok (.invokespecial 41, 3) := by decide +kernel
theorem d_Bn_init_87 : decode prog_2_method_1_code 87 = .ok (.putfield 51, 3) := by decide +kernel
theorem d_Bn_init_90 : decode prog_2_method_1_code 90 = .ok (.return_, 1) := by decide +kernel
theorem d_Bn_goBack_0 : decode prog_2_method_2_code 0 = .ok (.aload_n 0, 1) := by decide +kernel
theorem d_Bn_goBack_1 : decode prog_2_method_2_code 1 = .ok (.getfield 21, 3) := by decide +kernel
theorem d_Bn_goBack_4 : decode prog_2_method_2_code 4 = .ok (.aload_n 1, 1) := by decide +kernel
theorem d_Bn_goBack_5 : decode prog_2_method_2_code 5 = .ok (.invokevirtual 54, 3) := by decide +kernel
theorem d_Bn_goBack_8 : decode prog_2_method_2_code 8 = .ok (.aload_n 0, 1) := by decide +kernel
theorem d_Bn_goBack_9 : decode prog_2_method_2_code 9 = .ok (.getfield 21, 3) := by decide +kernel
theorem d_Bn_goBack_12 : decode prog_2_method_2_code 12 = .ok (.aload_n 1, 1) := by decide +kernel
theorem d_Bn_goBack_13 : decode prog_2_method_2_code 13 = .ok (.iload_n 2, 1) := by decide +kernel
theorem d_Bn_goBack_14 : decode prog_2_method_2_code 14 = .ok (.aload_n 0, 1) := by decide +kernel
theorem d_Bn_goBack_15 : decode prog_2_method_2_code 15 = .ok (.getfield 44, 3) := by decide +kernel
theorem d_Bn_goBack_18 : decode prog_2_method_2_code 18 = .ok (.invokevirtual 58, 3) := by decide +kernel
theorem d_Bn_goBack_21 : decode prog_2_method_2_code 21 = .ok (.aload_n 0, 1) := by decide +kernel
theorem d_Bn_goBack_22 : decode prog_2_method_2_code 22 = .ok (.getfield 12, 3) := by decide +kernel
theorem d_Bn_goBack_25 : decode prog_2_method_2_code 25 = .ok (.aload_n 0, 1) := by decide +kernel
theorem d_Bn_goBack_26 : decode prog_2_method_2_code 26 = .ok (.getfield 44, 3) := by decide +kernel
theorem d_Bn_goBack_29 : decode prog_2_method_2_code 29 = .ok (.invokevirtual 62, 3) := by decide +kernel
theorem d_Bn_goBack_32 : decode prog_2_method_2_code 32 = .ok (.aload_n 0, 1) := by decide +kernel
theorem d_Bn_goBack_33 : decode prog_2_method_2_code 33 = .ok (.getfield 12, 3) := by decide +kernel
theorem d_Bn_goBack_36 : decode prog_2_method_2_code 36 = .ok (.getfield 65, 3) := by decide +kernel
theorem d_Bn_goBack_39 : decode prog_2_method_2_code 39 = .ok (.aload_n 1, 1) := by decide +kernel
theorem d_Bn_goBack_40 : decode prog_2_method_2_code 40 = .ok (.invokevirtual 68, 3) := by decide +kernel
theorem d_Bn_goBack_43 : decode prog_2_method_2_code 43 = .ok (.ifCond .eq 26, 3) := by decide +kernel
theorem d_Bn_goBack_46 : decode prog_2_method_2_code 46 = .ok (.aload_n 1, 1) := by decide +kernel
theorem d_Bn_goBack_47 : decode prog_2_method_2_code 47 = .ok (.getfield 72, 3) := by decide +kernel
theorem d_Bn_goBack_50 : decode prog_2_method_2_code 50 = .ok (.ifCond .eq 15, 3) := by decide +kernel
theorem d_Bn_goBack_53 : decode prog_2_method_2_code 53 = .ok (.aload_n 0, 1) := by decide +kernel
theorem d_Bn_goBack_54 : decode prog_2_method_2_code 54 = .ok (.getfield 12, 3) := by decide +kernel
theorem d_Bn_goBack_57 : decode prog_2_method_2_code 57 = .ok (.iconst 0, 1) := by decide +kernel
theorem d_Bn_goBack_58 : decode prog_2_method_2_code 58 = .ok (.invokevirtual 76, 3) := by decide +kernel
theorem d_Bn_goBack_61 : decode prog_2_method_2_code 61 = .ok (.iload_n 2, 1) := by decide +kernel
theorem d_Bn_goBack_62 : decode prog_2_method_2_code 62 = .ok (.if_icmp .ne 7, 3) := by decide +kernel
theorem d_Bn_goBack_65 : decode prog_2_method_2_code 65 = .ok (.iconst 1, 1) := by decide +kernel
theorem d_Bn_goBack_66 : decode prog_2_method_2_code 66 = .ok (.goto 4, 3) := by decide +kernel
theorem d_Bn_goBack_69 : decode prog_2_method_2_code 69 = .ok (.iconst 0, 1) := by decide +kernel
theorem d_Bn_goBack_70 : decode prog_2_method_2_code 70 = .ok (.ireturn, 1) := by decide +kernel
theorem d_Bn_unpackGiven_0 : decode prog_2_method_3_code 0 = .ok (.aload_n 0, 1) := by decide +kernel
theorem d_Bn_unpackGiven_1 : decode prog_2_method_3_code 1 = .ok (.getfield 44, 3) := by decide +kernel
theorem d_Bn_unpackGiven_4 : decode prog_2_method_3_code 4 = .ok (.aload_n 0, 1) := by decide +kernel
theorem d_Bn_unpackGiven_5 : decode prog_2_method_3_code 5 = .ok (.getfield 48, 3) := by decide +kernel
theorem d_Bn_unpackGiven_8 : decode prog_2_method_3_code 8 = .ok (.invokestatic 80, 3) := by decide +kernel
theorem d_Bn_unpackGiven_11 : decode prog_2_method_3_code 11 = .ok (.ifCond .ne 5, 3) := by decide +kernel
theorem d_Bn_unpackGiven_14 : decode prog_2_method_3_code 14 = .ok (.iconst 0, 1) := by decide +kernel
theorem d_Bn_unpackGiven_15 : decode prog_2_method_3_code 15 = .ok (.ireturn, 1) := by decide +kernel
theorem d_Bn_unpackGiven_16 : decode prog_2_method_3_code 16 = .ok (.aload_n 0, 1) := by decide +kernel
theorem d_Bn_unpackGiven_17 : decode prog_2_method_3_code 17 = .ok (.getfield 48, 3) := by decide +kernel
theorem d_Bn_unpackGiven_20 : decode prog_2_method_3_code 20 = .ok (.aload_n 0, 1) := by decide +kernel
theorem d_Bn_unpackGiven_21 : decode prog_2_method_3_code 21 = .ok (.getfield 51, 3) := by decide +kernel
theorem d_Bn_unpackGiven_24 : decode prog_2_method_3_code 24 = .ok (.invokestatic 84, 3) := by decide +kernel
theorem d_Bn_unpackGiven_27 : decode prog_2_method_3_code 27 = .ok (.aload_n 0, 1) := by decide +kernel
theorem d_Bn_unpackGiven_28 : decode prog_2_method_3_code 28 = .ok (.getfield 51, 3) := by decide +kernel
theorem d_Bn_unpackGiven_31 : decode prog_2_method_3_code 31 = .ok (.aload_n 0, 1) := by decide +kernel
theorem d_Bn_unpackGiven_32 : decode prog_2_method_3_code 32 = .ok (.getfield 44, 3) := by decide +kernel
theorem d_Bn_unpackGiven_35 : decode prog_2_method_3_code 35 = .ok (.invokevirtual 68, 3) := by decide +kernel
theorem d_Bn_unpackGiven_38 : decode prog_2_method_3_code 38 = .ok (.ireturn, 1) := by decide +kernel
theorem d_Ch_init_0 : decode prog_3_method_1_code 0 = .ok (.aload_n 0, 1) := by decide +kernel
theorem d_Ch_init_1 : decode prog_3_method_1_code 1 = .ok (.invokespecial 3, 3) := by decide +kernel
theorem d_Ch_init_4 : decode prog_3_method_1_code 4 = .ok (.aload_n 0, 1) := by decide +kernel
theorem d_Ch_init_5 : decode prog_3_method_1_code 5 = .ok (.sipush 900, 3) := by decide +kernel
theorem d_Ch_init_8 : decode prog_3_method_1_code 8 = .ok (.newarray .int, 2) := by decide +kernel
theorem d_Ch_init_10 : decode prog_3_method_1_code 10 = .ok (.putfield 9, 3) := by decide +kernel
theorem d_Ch_init_13 : decode prog_3_method_1_code 13 = .ok (.aload_n 0, 1) := by decide +kernel
theorem d_Ch_init_14 : decode prog_3_method_1_code 14 = .ok (.sipush 257, 3) := by decide +kernel
theorem d_Ch_init_17 : decode prog_3_method_1_code 17 = .ok (.newarray .int, 2) := by decide +kernel
theorem d_Ch_init_19 : decode prog_3_method_1_code 19 = .ok (.putfield 15, 3) := by decide +kernel
theorem d_Ch_init_22 : decode prog_3_method_1_code 22 = .ok (.return_, 1) := by decide +kernel
theorem d_Ch_link_0 : decode prog_3_method_2_code 0 = .ok (.aload_n 0, 1) := by decide +kernel
theorem d_Ch_link_1 : decode prog_3_method_2_code 1 = .ok (.aload_n 1, 1) := by decide +kernel
theorem d_Ch_link_2 : decode prog_3_method_2_code 2 = .ok (.getfield 18, 3) := by decide +kernel
theorem d_Ch_link_5 : decode prog_3_method_2_code 5 = .ok (.sipush 900, 3) := by decide +kernel
theorem d_Ch_link_8 : decode prog_3_method_2_code 8 = .ok (.invokestatic 24, 3) := by decide +kernel
theorem d_Ch_link_11 : decode prog_3_method_2_code 11 = .ok (.putfield 30, 3) := by decide +kernel
theorem d_Ch_link_14 : decode prog_3_method_2_code 14 = .ok (.aload_n 0, 1) := by decide +kernel
theorem d_Ch_link_15 : decode prog_3_method_2_code 15 = .ok (.getfield 15, 3) := by decide +kernel
theorem d_Ch_link_18 : decode prog_3_method_2_code 18 = .ok (.iconst 0, 1) := by decide +kernel
theorem d_Ch_link_19 : decode prog_3_method_2_code 19 = .ok (.invokestatic 31, 3) := by decide +kernel
theorem d_Ch_link_22 : decode prog_3_method_2_code 22 = .ok (.iconst 0, 1) := by decide +kernel
theorem d_Ch_link_23 : decode prog_3_method_2_code 23 = .ok (.istore_n 2, 1) := by decide +kernel
theorem d_Ch_link_24 : decode prog_3_method_2_code 24 = .ok (.iload_n 2, 1) := by decide +kernel
theorem d_Ch_link_25 : decode prog_3_method_2_code 25 = .ok (.aload_n 0, 1) := by decide +kernel
theorem d_Ch_link_26 : decode prog_3_method_2_code 26 = .ok (.getfield 30, 3) := by decide +kernel
theorem d_Ch_link_29 : decode prog_3_method_2_code 29 = .ok (.if_icmp .ge 25, 3) := by decide +kernel
theorem d_Ch_link_32 : decode prog_3_method_2_code 32 = .ok (.aload_n 0, 1) := by decide +kernel
theorem d_Ch_link_33 : decode prog_3_method_2_code 33 = .ok (.getfield 15, 3) := by decide +kernel
theorem d_Ch_link_36 : decode prog_3_method_2_code 36 = .ok (.aload_n 1, 1) := by decide +kernel
theorem d_Ch_link_37 : decode prog_3_method_2_code 37 = .ok (.iload_n 2, 1) := by decide +kernel
theorem d_Ch_link_38 : decode prog_3_method_2_code 38 = .ok (.invokevirtual 37, 3) := by decide +kernel
theorem d_Ch_link_41 : decode prog_3_method_2_code 41 = .ok (.iconst 1, 1) := by decide +kernel
theorem d_Ch_link_42 : decode prog_3_method_2_code 42 = .ok (.iadd, 1) := by decide +kernel
theorem d_Ch_link_43 : decode prog_3_method_2_code 43 = .ok (.dup2, 1) := by decide +kernel
theorem d_Ch_link_44 : decode prog_3_method_2_code 44 = .ok (.iaload, 1) := by decide +kernel
theorem d_Ch_link_45 : decode prog_3_method_2_code 45 = .ok (.iconst 1, 1) := by decide +kernel
theorem d_Ch_link_46 : decode prog_3_method_2_code 46 = .ok (.iadd, 1) := by decide +kernel
theorem d_Ch_link_47 : decode prog_3_method_2_code 47 = .ok (.iastore, 1) := by decide +kernel
theorem d_Ch_link_48 : decode prog_3_method_2_code 48 = .ok (.iinc 2 1, 3) := by decide +kernel
theorem d_Ch_link_51 : decode prog_3_method_2_code 51 = .ok (.goto (-27), 3) := by decide +kernel
theorem d_Ch_link_54 : decode prog_3_method_2_code 54 = .ok (.iconst 0, 1) := by decide +kernel
theorem d_Ch_link_55 : decode prog_3_method_2_code 55 = .ok (.istore_n 2, 1) := by decide +kernel
theorem d_Ch_link_56 : decode prog_3_method_2_code 56 = .ok (.iload_n 2, 1) := by decide +kernel
theorem d_Ch_link_57 : decode prog_3_method_2_code 57 = .ok (.sipush 256, 3) := by decide +kernel
theorem d_Ch_link_60 : decode prog_3_method_2_code 60 = .ok (.if_icmp .ge 26, 3) := by decide +kernel
theorem d_Ch_link_63 : decode prog_3_method_2_code 63 = .ok (.aload_n 0, 1) := by decide +kernel
theorem d_Ch_link_64 : decode prog_3_method_2_code 64 = .ok (.getfield 15, 3) := by decide +kernel
theorem d_Ch_link_67 : decode prog_3_method_2_code 67 = .ok (.iload_n 2, 1) := by decide +kernel
theorem d_Ch_link_68 : decode prog_3_method_2_code 68 = .ok (.iconst 1, 1) := by decide +kernel
theorem d_Ch_link_69 : decode prog_3_method_2_code 69 = .ok (.iadd, 1) := by decide +kernel
theorem d_Ch_link_70 : decode prog_3_method_2_code 70 = .ok (.dup2, 1) := by decide +kernel
theorem d_Ch_link_71 : decode prog_3_method_2_code 71 = .ok (.iaload, 1) := by decide +kernel
theorem d_Ch_link_72 : decode prog_3_method_2_code 72 = .ok (.aload_n 0, 1) := by decide +kernel
theorem d_Ch_link_73 : decode prog_3_method_2_code 73 = .ok (.getfield 15, 3) := by decide +kernel
theorem d_Ch_link_76 : decode prog_3_method_2_code 76 = .ok (.iload_n 2, 1) := by decide +kernel
theorem d_Ch_link_77 : decode prog_3_method_2_code 77 = .ok (.iaload, 1) := by decide +kernel
theorem d_Ch_link_78 : decode prog_3_method_2_code 78 = .ok (.iadd, 1) := by decide +kernel
theorem d_Ch_link_79 : decode prog_3_method_2_code 79 = .ok (.iastore, 1) := by decide +kernel
theorem d_Ch_link_80 : decode prog_3_method_2_code 80 = .ok (.iinc 2 1, 3) := by decide +kernel
theorem d_Ch_link_83 : decode prog_3_method_2_code 83 = .ok (.goto (-27), 3) := by decide +kernel
theorem d_Ch_link_86 : decode prog_3_method_2_code 86 = .ok (.iconst 0, 1) := by decide +kernel
theorem d_Ch_link_87 : decode prog_3_method_2_code 87 = .ok (.istore_n 2, 1) := by decide +kernel
theorem d_Ch_link_88 : decode prog_3_method_2_code 88 = .ok (.iload_n 2, 1) := by decide +kernel
theorem d_Ch_link_89 : decode prog_3_method_2_code 89 = .ok (.aload_n 0, 1) := by decide +kernel
theorem d_Ch_link_90 : decode prog_3_method_2_code 90 = .ok (.getfield 30, 3) := by decide +kernel
theorem d_Ch_link_93 : decode prog_3_method_2_code 93 = .ok (.if_icmp .ge 37, 3) := by decide +kernel
theorem d_Ch_link_96 : decode prog_3_method_2_code 96 = .ok (.aload_n 1, 1) := by decide +kernel
theorem d_Ch_link_97 : decode prog_3_method_2_code 97 = .ok (.iload_n 2, 1) := by decide +kernel
theorem d_Ch_link_98 : decode prog_3_method_2_code 98 = .ok (.invokevirtual 37, 3) := by decide +kernel
theorem d_Ch_link_101 : decode prog_3_method_2_code 101 = .ok (.istore_n 3, 1) := by decide +kernel
theorem d_Ch_link_102 : decode prog_3_method_2_code 102 = .ok (.aload_n 0, 1) := by decide +kernel
theorem d_Ch_link_103 : decode prog_3_method_2_code 103 = .ok (.getfield 9, 3) := by decide +kernel
theorem d_Ch_link_106 : decode prog_3_method_2_code 106 = .ok (.aload_n 0, 1) := by decide +kernel
theorem d_Ch_link_107 : decode prog_3_method_2_code 107 = .ok (.getfield 15, 3) := by decide +kernel
theorem d_Ch_link_110 : decode prog_3_method_2_code 110 = .ok (.iload_n 3, 1) := by decide +kernel
theorem d_Ch_link_111 : decode prog_3_method_2_code 111 = .ok (.iaload, 1) := by decide +kernel
theorem d_Ch_link_112 : decode prog_3_method_2_code 112 = .ok (.iload_n 2, 1) := by decide +kernel
theorem d_Ch_link_113 : decode prog_3_method_2_code 113 = .ok (.iastore, 1) := by decide +kernel
theorem d_Ch_link_114 : decode prog_3_method_2_code 114 = .ok (.aload_n 0, 1) := by decide +kernel
theorem d_Ch_link_115 : decode prog_3_method_2_code 115 = .ok (.getfield 15, 3) := by decide +kernel
theorem d_Ch_link_118 : decode prog_3_method_2_code 118 = .ok (.iload_n 3, 1) := by decide +kernel
theorem d_Ch_link_119 : decode prog_3_method_2_code 119 = .ok (.dup2, 1) := by decide +kernel
theorem d_Ch_link_120 : decode prog_3_method_2_code 120 = .ok (.iaload, 1) := by decide +kernel
theorem d_Ch_link_121 : decode prog_3_method_2_code 121 = .ok (.iconst 1, 1) := by decide +kernel
theorem d_Ch_link_122 : decode prog_3_method_2_code 122 = .ok (.iadd, 1) := by decide +kernel
theorem d_Ch_link_123 : decode prog_3_method_2_code 123 = .ok (.iastore, 1) := by decide +kernel
theorem d_Ch_link_124 : decode prog_3_method_2_code 124 = .ok (.iinc 2 1, 3) := by decide +kernel
theorem d_Ch_link_127 : decode prog_3_method_2_code 127 = .ok (.goto (-39), 3) := by decide +kernel
theorem d_Ch_link_130 : decode prog_3_method_2_code 130 = .ok (.return_, 1) := by decide +kernel
theorem d_Ch_ringLength_0 : decode prog_3_method_3_code 0 = .ok (.iload_n 1, 1) := by decide +kernel
theorem d_Ch_ringLength_1 : decode prog_3_method_3_code 1 = .ok (.ifCond .lt 11, 3) := by decide +kernel
theorem d_Ch_ringLength_4 : decode prog_3_method_3_code 4 = .ok (.iload_n 1, 1) := by decide +kernel
theorem d_Ch_ringLength_5 : decode prog_3_method_3_code 5 = .ok (.aload_n 0, 1) := by decide +kernel
theorem d_Ch_ringLength_6 : decode prog_3_method_3_code 6 = .ok (.getfield 30, 3) := by decide +kernel
theorem d_Ch_ringLength_9 : decode prog_3_method_3_code 9 = .ok (.if_icmp .lt 5, 3) := by decide +kernel
theorem d_Ch_ringLength_12 : decode prog_3_method_3_code 12 = .ok (.iconst (-1), 1) := by decide +kernel
theorem d_Ch_ringLength_13 : decode prog_3_method_3_code 13 = .ok (.ireturn, 1) := by decide +kernel
theorem d_Ch_ringLength_14 : decode prog_3_method_3_code 14 = .ok (.aload_n 0, 1) := by decide +kernel
theorem d_Ch_ringLength_15 : decode prog_3_method_3_code 15 = .ok (.getfield 9, 3) := by decide +kernel
theorem d_Ch_ringLength_18 : decode prog_3_method_3_code 18 = .ok (.iload_n 1, 1) := by decide +kernel
theorem d_Ch_ringLength_19 : decode prog_3_method_3_code 19 = .ok (.iaload, 1) := by decide +kernel
theorem d_Ch_ringLength_20 : decode prog_3_method_3_code 20 = .ok (.istore_n 2, 1) := by decide +kernel
theorem d_Ch_ringLength_21 : decode prog_3_method_3_code 21 = .ok (.iconst 1, 1) := by decide +kernel
theorem d_Ch_ringLength_22 : decode prog_3_method_3_code 22 = .ok (.istore_n 3, 1) := by decide +kernel
theorem d_Ch_ringLength_23 : decode prog_3_method_3_code 23 = .ok (.iload_n 2, 1) := by decide +kernel
theorem d_Ch_ringLength_24 : decode prog_3_method_3_code 24 = .ok (.iload_n 1, 1) := by decide +kernel
theorem d_Ch_ringLength_25 : decode prog_3_method_3_code 25 = .ok (.if_icmp .eq 24, 3) := by decide +kernel
theorem d_Ch_ringLength_28 : decode prog_3_method_3_code 28 = .ok (.iload_n 3, 1) := by decide +kernel
theorem d_Ch_ringLength_29 : decode prog_3_method_3_code 29 = .ok (.aload_n 0, 1) := by decide +kernel
theorem d_Ch_ringLength_30 : decode prog_3_method_3_code 30 = .ok (.getfield 30, 3) := by decide +kernel
theorem d_Ch_ringLength_33 : decode prog_3_method_3_code 33 = .ok (.if_icmp .ge 16, 3) := by decide +kernel
theorem d_Ch_ringLength_36 : decode prog_3_method_3_code 36 = .ok (.aload_n 0, 1) := by decide +kernel
theorem d_Ch_ringLength_37 : decode prog_3_method_3_code 37 = .ok (.getfield 9, 3) := by decide +kernel
theorem d_Ch_ringLength_40 : decode prog_3_method_3_code 40 = .ok (.iload_n 2, 1) := by decide +kernel
theorem d_Ch_ringLength_41 : decode prog_3_method_3_code 41 = .ok (.iaload, 1) := by decide +kernel
theorem d_Ch_ringLength_42 : decode prog_3_method_3_code 42 = .ok (.istore_n 2, 1) := by decide +kernel
theorem d_Ch_ringLength_43 : decode prog_3_method_3_code 43 = .ok (.iinc 3 1, 3) := by decide +kernel
theorem d_Ch_ringLength_46 : decode prog_3_method_3_code 46 = .ok (.goto (-23), 3) := by decide +kernel
theorem d_Ch_ringLength_49 : decode prog_3_method_3_code 49 = .ok (.iload_n 3, 1) := by decide +kernel
theorem d_Ch_ringLength_50 : decode prog_3_method_3_code 50 = .ok (.ireturn, 1) := by decide +kernel
theorem d_Ch_follow_0 : decode prog_3_method_4_code 0 = .ok (.aload_n 3, 1) := by decide +kernel
theorem d_Ch_follow_1 : decode prog_3_method_4_code 1 = .ok (.iconst 0, 1) := by decide +kernel
theorem d_Ch_follow_2 : decode prog_3_method_4_code 2 = .ok (.invokevirtual 41, 3) := by decide +kernel
theorem d_Ch_follow_5 : decode prog_3_method_4_code 5 = .ok (.iload_n 2, 1) := by decide +kernel
theorem d_Ch_follow_6 : decode prog_3_method_4_code 6 = .ok (.istore 4, 2) := by decide +kernel
theorem d_Ch_follow_8 : decode prog_3_method_4_code 8 = .ok (.iconst 0, 1) := by decide +kernel
theorem d_Ch_follow_9 : decode prog_3_method_4_code 9 = .ok (.istore 5, 2) := by decide +kernel
theorem d_Ch_follow_11 : decode prog_3_method_4_code 11 = .ok (.iload 5, 2) := by decide +kernel
theorem d_Ch_follow_13 : decode prog_3_method_4_code 13 = .ok (.aload_n 0, 1) := by decide +kernel
theorem d_Ch_follow_14 : decode prog_3_method_4_code 14 = .ok (.getfield 30, 3) := by decide +kernel
theorem d_Ch_follow_17 : decode prog_3_method_4_code 17 = .ok (.if_icmp .ge 42, 3) := by decide +kernel
theorem d_Ch_follow_20 : decode prog_3_method_4_code 20 = .ok (.iload 4, 2) := by decide +kernel
theorem d_Ch_follow_22 : decode prog_3_method_4_code 22 = .ok (.ifCond .lt 37, 3) := by decide +kernel
theorem d_Ch_follow_25 : decode prog_3_method_4_code 25 = .ok (.iload 4, 2) := by decide +kernel
theorem d_Ch_follow_27 : decode prog_3_method_4_code 27 = .ok (.aload_n 0, 1) := by decide +kernel
theorem d_Ch_follow_28 : decode prog_3_method_4_code 28 = .ok (.getfield 30, 3) := by decide +kernel
theorem d_Ch_follow_31 : decode prog_3_method_4_code 31 = .ok (.if_icmp .ge 28, 3) := by decide +kernel
theorem d_Ch_follow_34 : decode prog_3_method_4_code 34 = .ok (.aload_n 0, 1) := by decide +kernel
theorem d_Ch_follow_35 : decode prog_3_method_4_code 35 = .ok (.getfield 9, 3) := by decide +kernel
theorem d_Ch_follow_38 : decode prog_3_method_4_code 38 = .ok (.iload 4, 2) := by decide +kernel
theorem d_Ch_follow_40 : decode prog_3_method_4_code 40 = .ok (.iaload, 1) := by decide +kernel
theorem d_Ch_follow_41 : decode prog_3_method_4_code 41 = .ok (.istore 4, 2) := by decide +kernel
theorem d_Ch_follow_43 : decode prog_3_method_4_code 43 = .ok (.aload_n 3, 1) := by decide +kernel
theorem d_Ch_follow_44 : decode prog_3_method_4_code 44 = .ok (.aload_n 1, 1) := by decide +kernel
theorem d_Ch_follow_45 : decode prog_3_method_4_code 45 = .ok (.iload 4, 2) := by decide +kernel
theorem d_Ch_follow_47 : decode prog_3_method_4_code 47 = .ok (.invokevirtual 37, 3) := by decide +kernel
theorem d_Ch_follow_50 : decode prog_3_method_4_code 50 = .ok (.invokevirtual 45, 3) := by decide +kernel
theorem d_Ch_follow_53 : decode prog_3_method_4_code 53 = .ok (.iinc 5 1, 3) := by decide +kernel
theorem d_Ch_follow_56 : decode prog_3_method_4_code 56 = .ok (.goto (-45), 3) := by decide +kernel
theorem d_Ch_follow_59 : decode prog_3_method_4_code 59 = .ok (.return_, 1) := by decide +kernel
theorem d_Cd_init_0 : decode prog_4_method_1_code 0 = .ok (.aload_n 0, 1) := by decide +kernel
theorem d_Cd_init_1 : decode prog_4_method_1_code 1 = .ok (.invokespecial 3, 3) := by decide +kernel
theorem d_Cd_init_4 : decode prog_4_method_1_code 4 = .ok (.aload_n 0, 1) := by decide +kernel
theorem d_Cd_init_5 : decode prog_4_method_1_code 5 = .ok (.new 9, 3) := by decide +kernel
theorem d_Cd_init_8 : decode prog_4_method_1_code 8 = .ok (.dup, 1) := by decide +kernel
theorem d_Cd_init_9 : decode prog_4_method_1_code 9 = .ok (.invokespecial 11, 3) := by decide +kernel
theorem d_Cd_init_12 : decode prog_4_method_1_code 12 = .ok (.putfield 12, 3) := by decide +kernel
theorem d_Cd_init_15 : decode prog_4_method_1_code 15 = .ok (.aload_n 0, 1) := by decide +kernel
theorem d_Cd_init_16 : decode prog_4_method_1_code 16 = .ok (.sipush 258, 3) := by decide +kernel
theorem d_Cd_init_19 : decode prog_4_method_1_code 19 = .ok (.newarray .int, 2) := by decide +kernel
theorem d_Cd_init_21 : decode prog_4_method_1_code 21 = .ok (.putfield 18, 3) := by decide +kernel
theorem d_Cd_init_24 : decode prog_4_method_1_code 24 = .ok (.aload_n 0, 1) := by decide +kernel
theorem d_Cd_init_25 : decode prog_4_method_1_code 25 = .ok (.sipush 258, 3) := by decide +kernel
theorem d_Cd_init_28 : decode prog_4_method_1_code 28 = .ok (.newarray .int, 2) := by decide +kernel
theorem d_Cd_init_30 : decode prog_4_method_1_code 30 = .ok (.putfield 22, 3) := by decide +kernel
theorem d_Cd_init_33 : decode prog_4_method_1_code 33 = .ok (.aload_n 0, 1) := by decide +kernel
theorem d_Cd_init_34 : decode prog_4_method_1_code 34 = .ok (.sipush 258, 3) := by decide +kernel
theorem d_Cd_init_37 : decode prog_4_method_1_code 37 = .ok (.newarray .int, 2) := by decide +kernel
theorem d_Cd_init_39 : decode prog_4_method_1_code 39 = .ok (.putfield 25, 3) := by decide +kernel
theorem d_Cd_init_42 : decode prog_4_method_1_code 42 = .ok (.aload_n 0, 1) := by decide +kernel
theorem d_Cd_init_43 : decode prog_4_method_1_code 43 = .ok (.sipush 258, 3) := by decide +kernel
theorem d_Cd_init_46 : decode prog_4_method_1_code 46 = .ok (.newarray .int, 2) := by decide +kernel
theorem d_Cd_init_48 : decode prog_4_method_1_code 48 = .ok (.putfield 28, 3) := by decide +kernel
theorem d_Cd_init_51 : decode prog_4_method_1_code 51 = .ok (.aload_n 0, 1) := by decide +kernel
theorem d_Cd_init_52 : decode prog_4_method_1_code 52 = .ok (.bipush 13, 2) := by decide +kernel
theorem d_Cd_init_54 : decode prog_4_method_1_code 54 = .ok (.newarray .int, 2) := by decide +kernel
theorem d_Cd_init_56 : decode prog_4_method_1_code 56 = .ok (.putfield 31, 3) := by decide +kernel
theorem d_Cd_init_59 : decode prog_4_method_1_code 59 = .ok (.return_, 1) := by decide +kernel
theorem d_Cd_has_0 : decode prog_4_method_2_code 0 = .ok (.iload_n 1, 1) := by decide +kernel
theorem d_Cd_has_1 : decode prog_4_method_2_code 1 = .ok (.ifCond .lt 15, 3) := by decide +kernel
theorem d_Cd_has_4 : decode prog_4_method_2_code 4 = .ok (.iload_n 1, 1) := by decide +kernel
theorem d_Cd_has_5 : decode prog_4_method_2_code 5 = .ok (.aload_n 0, 1) := by decide +kernel
theorem d_Cd_has_6 : decode prog_4_method_2_code 6 = .ok (.getfield 34, 3) := by decide +kernel
theorem d_Cd_has_9 : decode prog_4_method_2_code 9 = .ok (.if_icmp .ge 7, 3) := by decide +kernel
theorem d_Cd_has_12 : decode prog_4_method_2_code 12 = .ok (.iconst 1, 1) := by decide +kernel
theorem d_Cd_has_13 : decode prog_4_method_2_code 13 = .ok (.goto 4, 3) := by decide +kernel
theorem d_Cd_has_16 : decode prog_4_method_2_code 16 = .ok (.iconst 0, 1) := by decide +kernel
theorem d_Cd_has_17 : decode prog_4_method_2_code 17 = .ok (.ireturn, 1) := by decide +kernel
theorem d_Cd_lengthOf_0 : decode prog_4_method_3_code 0 = .ok (.aload_n 0, 1) := by decide +kernel
theorem d_Cd_lengthOf_1 : decode prog_4_method_3_code 1 = .ok (.iload_n 1, 1) := by decide +kernel
theorem d_Cd_lengthOf_2 : decode prog_4_method_3_code 2 = .ok (.invokevirtual 38, 3) := by decide +kernel
theorem d_Cd_lengthOf_5 : decode prog_4_method_3_code 5 = .ok (.ifCond .eq 12, 3) := by decide +kernel
theorem d_Cd_lengthOf_8 : decode prog_4_method_3_code 8 = .ok (.aload_n 0, 1) := by decide +kernel
theorem d_Cd_lengthOf_9 : decode prog_4_method_3_code 9 = .ok (.getfield 22, 3) := by decide +kernel
theorem d_Cd_lengthOf_12 : decode prog_4_method_3_code 12 = .ok (.iload_n 1, 1) := by decide +kernel
theorem d_Cd_lengthOf_13 : decode prog_4_method_3_code 13 = .ok (.iaload, 1) := by decide +kernel
theorem d_Cd_lengthOf_14 : decode prog_4_method_3_code 14 = .ok (.goto 4, 3) := by decide +kernel
theorem d_Cd_lengthOf_17 : decode prog_4_method_3_code 17 = .ok (.iconst 0, 1) := by decide +kernel
theorem d_Cd_lengthOf_18 : decode prog_4_method_3_code 18 = .ok (.ireturn, 1) := by decide +kernel
theorem d_Cd_valueOf_0 : decode prog_4_method_4_code 0 = .ok (.aload_n 0, 1) := by decide +kernel
theorem d_Cd_valueOf_1 : decode prog_4_method_4_code 1 = .ok (.iload_n 1, 1) := by decide +kernel
theorem d_Cd_valueOf_2 : decode prog_4_method_4_code 2 = .ok (.invokevirtual 38, 3) := by decide +kernel
theorem d_Cd_valueOf_5 : decode prog_4_method_4_code 5 = .ok (.ifCond .eq 12, 3) := by decide +kernel
theorem d_Cd_valueOf_8 : decode prog_4_method_4_code 8 = .ok (.aload_n 0, 1) := by decide +kernel
theorem d_Cd_valueOf_9 : decode prog_4_method_4_code 9 = .ok (.getfield 25, 3) := by decide +kernel
theorem d_Cd_valueOf_12 : decode prog_4_method_4_code 12 = .ok (.iload_n 1, 1) := by decide +kernel
theorem d_Cd_valueOf_13 : decode prog_4_method_4_code 13 = .ok (.iaload, 1) := by decide +kernel
theorem d_Cd_valueOf_14 : decode prog_4_method_4_code 14 = .ok (.goto 4, 3) := by decide +kernel
theorem d_Cd_valueOf_17 : decode prog_4_method_4_code 17 = .ok (.iconst 0, 1) := by decide +kernel
theorem d_Cd_valueOf_18 : decode prog_4_method_4_code 18 = .ok (.ireturn, 1) := by decide +kernel
theorem d_Cd_symbolAt_0 : decode prog_4_method_5_code 0 = .ok (.aload_n 0, 1) := by decide +kernel
theorem d_Cd_symbolAt_1 : decode prog_4_method_5_code 1 = .ok (.iload_n 1, 1) := by decide +kernel
theorem d_Cd_symbolAt_2 : decode prog_4_method_5_code 2 = .ok (.invokevirtual 38, 3) := by decide +kernel
theorem d_Cd_symbolAt_5 : decode prog_4_method_5_code 5 = .ok (.ifCond .eq 12, 3) := by decide +kernel
theorem d_Cd_symbolAt_8 : decode prog_4_method_5_code 8 = .ok (.aload_n 0, 1) := by decide +kernel
theorem d_Cd_symbolAt_9 : decode prog_4_method_5_code 9 = .ok (.getfield 28, 3) := by decide +kernel
theorem d_Cd_symbolAt_12 : decode prog_4_method_5_code 12 = .ok (.iload_n 1, 1) := by decide +kernel
theorem d_Cd_symbolAt_13 : decode prog_4_method_5_code 13 = .ok (.iaload, 1) := by decide +kernel
theorem d_Cd_symbolAt_14 : decode prog_4_method_5_code 14 = .ok (.goto 5, 3) := by decide +kernel
theorem d_Cd_symbolAt_17 : decode prog_4_method_5_code 17 = .ok (.bipush (-2), 2) := by decide +kernel
theorem d_Cd_symbolAt_19 : decode prog_4_method_5_code 19 = .ok (.ireturn, 1) := by decide +kernel
theorem d_Cd_makeFrom_0 : decode prog_4_method_6_code 0 = .ok (.aload_n 0, 1) := by decide +kernel
theorem d_Cd_makeFrom_1 : decode prog_4_method_6_code 1 = .ok (.aload_n 1, 1) := by decide +kernel
theorem d_Cd_makeFrom_2 : decode prog_4_method_6_code 2 = .ok (.getfield 42, 3) := by decide +kernel
theorem d_Cd_makeFrom_5 : decode prog_4_method_6_code 5 = .ok (.iconst 1, 1) := by decide +kernel
theorem d_Cd_makeFrom_6 : decode prog_4_method_6_code 6 = .ok (.iadd, 1) := by decide +kernel
theorem d_Cd_makeFrom_7 : decode prog_4_method_6_code 7 = .ok (.sipush 258, 3) := by decide +kernel
theorem d_Cd_makeFrom_10 : decode prog_4_method_6_code 10 = .ok (.invokestatic 47, 3) := by decide +kernel
theorem d_Cd_makeFrom_13 : decode prog_4_method_6_code 13 = .ok (.putfield 34, 3) := by decide +kernel
theorem d_Cd_makeFrom_16 : decode prog_4_method_6_code 16 = .ok (.aload_n 0, 1) := by decide +kernel
theorem d_Cd_makeFrom_17 : decode prog_4_method_6_code 17 = .ok (.aload_n 1, 1) := by decide +kernel
theorem d_Cd_makeFrom_18 : decode prog_4_method_6_code 18 = .ok (.invokevirtual 53, 3) := by decide +kernel
theorem d_Cd_makeFrom_21 : decode prog_4_method_6_code 21 = .ok (.iconst 0, 1) := by decide +kernel
theorem d_Cd_makeFrom_22 : decode prog_4_method_6_code 22 = .ok (.istore_n 2, 1) := by decide +kernel
theorem d_Cd_makeFrom_23 : decode prog_4_method_6_code 23 = .ok (.iload_n 2, 1) := by decide +kernel
theorem d_Cd_makeFrom_24 : decode prog_4_method_6_code 24 = .ok (.bipush 40, 2) := by decide +kernel
theorem d_Cd_makeFrom_26 : decode prog_4_method_6_code 26 = .ok (.if_icmp .ge 68, 3) := by decide +kernel
theorem d_Cd_makeFrom_29 : decode prog_4_method_6_code 29 = .ok (.aload_n 0, 1) := by decide +kernel
theorem d_Cd_makeFrom_30 : decode prog_4_method_6_code 30 = .ok (.getfield 12, 3) := by decide +kernel
theorem d_Cd_makeFrom_33 : decode prog_4_method_6_code 33 = .ok (.aload_n 0, 1) := by decide +kernel
theorem d_Cd_makeFrom_34 : decode prog_4_method_6_code 34 = .ok (.getfield 18, 3) := by decide +kernel
theorem d_Cd_makeFrom_37 : decode prog_4_method_6_code 37 = .ok (.aload_n 0, 1) := by decide +kernel
theorem d_Cd_makeFrom_38 : decode prog_4_method_6_code 38 = .ok (.getfield 34, 3) := by decide +kernel
theorem d_Cd_makeFrom_41 : decode prog_4_method_6_code 41 = .ok (.aload_n 0, 1) := by decide +kernel
theorem d_Cd_makeFrom_42 : decode prog_4_method_6_code 42 = .ok (.getfield 22, 3) := by decide +kernel
theorem d_Cd_makeFrom_45 : decode prog_4_method_6_code 45 = .ok (.invokevirtual 57, 3) := by decide +kernel
theorem d_Cd_makeFrom_48 : decode prog_4_method_6_code 48 = .ok (.bipush 12, 2) := by decide +kernel
theorem d_Cd_makeFrom_50 : decode prog_4_method_6_code 50 = .ok (.if_icmp .gt 6, 3) := by decide +kernel
theorem d_Cd_makeFrom_53 : decode prog_4_method_6_code 53 = .ok (.goto 41, 3) := by decide +kernel
theorem d_Cd_makeFrom_56 : decode prog_4_method_6_code 56 = .ok (.iconst 0, 1) := by decide +kernel
theorem d_Cd_makeFrom_57 : decode prog_4_method_6_code 57 = .ok (.istore_n 3, 1) := by decide +kernel
theorem d_Cd_makeFrom_58 : decode prog_4_method_6_code 58 = .ok (.iload_n 3, 1) := by decide +kernel
theorem d_Cd_makeFrom_59 : decode prog_4_method_6_code 59 = .ok (.aload_n 0, 1) := by decide +kernel
theorem d_Cd_makeFrom_60 : decode prog_4_method_6_code 60 = .ok (.getfield 34, 3) := by decide +kernel
theorem d_Cd_makeFrom_63 : decode prog_4_method_6_code 63 = .ok (.if_icmp .ge 25, 3) := by decide +kernel
theorem d_Cd_makeFrom_66 : decode prog_4_method_6_code 66 = .ok (.aload_n 0, 1) := by decide +kernel
theorem d_Cd_makeFrom_67 : decode prog_4_method_6_code 67 = .ok (.getfield 18, 3) := by decide +kernel
theorem d_Cd_makeFrom_70 : decode prog_4_method_6_code 70 = .ok (.iload_n 3, 1) := by decide +kernel
theorem d_Cd_makeFrom_71 : decode prog_4_method_6_code 71 = .ok (.aload_n 0, 1) := by decide +kernel
theorem d_Cd_makeFrom_72 : decode prog_4_method_6_code 72 = .ok (.getfield 18, 3) := by decide +kernel
theorem d_Cd_makeFrom_75 : decode prog_4_method_6_code 75 = .ok (.iload_n 3, 1) := by decide +kernel
theorem d_Cd_makeFrom_76 : decode prog_4_method_6_code 76 = .ok (.iaload, 1) := by decide +kernel
theorem d_Cd_makeFrom_77 : decode prog_4_method_6_code 77 = .ok (.iconst 2, 1) := by decide +kernel
theorem d_Cd_makeFrom_78 : decode prog_4_method_6_code 78 = .ok (.idiv, 1) := by decide +kernel
theorem d_Cd_makeFrom_79 : decode prog_4_method_6_code 79 = .ok (.iconst 1, 1) := by decide +kernel
theorem d_Cd_makeFrom_80 : decode prog_4_method_6_code 80 = .ok (.iadd, 1) := by decide +kernel
theorem d_Cd_makeFrom_81 : decode prog_4_method_6_code 81 = .ok (.iastore, 1) := by decide +kernel
theorem d_Cd_makeFrom_82 : decode prog_4_method_6_code 82 = .ok (.iinc 3 1, 3) := by decide +kernel
theorem d_Cd_makeFrom_85 : decode prog_4_method_6_code 85 = .ok (.goto (-27), 3) := by decide +kernel
theorem d_Cd_makeFrom_88 : decode prog_4_method_6_code 88 = .ok (.iinc 2 1, 3) := by decide +kernel
theorem d_Cd_makeFrom_91 : decode prog_4_method_6_code 91 = .ok (.goto (-68), 3) := by decide +kernel
theorem d_Cd_makeFrom_94 : decode prog_4_method_6_code 94 = .ok (.aload_n 0, 1) := by decide +kernel
theorem d_Cd_makeFrom_95 : decode prog_4_method_6_code 95 = .ok (.invokevirtual 61, 3) := by decide +kernel
theorem d_Cd_makeFrom_98 : decode prog_4_method_6_code 98 = .ok (.return_, 1) := by decide +kernel
theorem d_Cd_weigh_0 : decode prog_4_method_7_code 0 = .ok (.aload_n 0, 1) := by decide +kernel
theorem d_Cd_weigh_1 : decode prog_4_method_7_code 1 = .ok (.getfield 18, 3) := by decide +kernel
theorem d_Cd_weigh_4 : decode prog_4_method_7_code 4 = .ok (.iconst 0, 1) := by decide +kernel
theorem d_Cd_weigh_5 : decode prog_4_method_7_code 5 = .ok (.invokestatic 64, 3) := by decide +kernel
theorem d_Cd_weigh_8 : decode prog_4_method_7_code 8 = .ok (.iconst 0, 1) := by decide +kernel
theorem d_Cd_weigh_9 : decode prog_4_method_7_code 9 = .ok (.istore_n 2, 1) := by decide +kernel
theorem d_Cd_weigh_10 : decode prog_4_method_7_code 10 = .ok (.iload_n 2, 1) := by decide +kernel
theorem d_Cd_weigh_11 : decode prog_4_method_7_code 11 = .ok (.aload_n 1, 1) := by decide +kernel
theorem d_Cd_weigh_12 : decode prog_4_method_7_code 12 = .ok (.getfield 70, 3) := by decide +kernel
theorem d_Cd_weigh_15 : decode prog_4_method_7_code 15 = .ok (.if_icmp .ge 33, 3) := by decide +kernel
theorem d_Cd_weigh_18 : decode prog_4_method_7_code 18 = .ok (.aload_n 1, 1) := by decide +kernel
theorem d_Cd_weigh_19 : decode prog_4_method_7_code 19 = .ok (.iload_n 2, 1) := by decide +kernel
theorem d_Cd_weigh_20 : decode prog_4_method_7_code 20 = .ok (.invokevirtual 71, 3) := by decide +kernel
theorem d_Cd_weigh_23 : decode prog_4_method_7_code 23 = .ok (.istore_n 3, 1) := by decide +kernel
theorem d_Cd_weigh_24 : decode prog_4_method_7_code 24 = .ok (.aload_n 0, 1) := by decide +kernel
theorem d_Cd_weigh_25 : decode prog_4_method_7_code 25 = .ok (.iload_n 3, 1) := by decide +kernel
theorem d_Cd_weigh_26 : decode prog_4_method_7_code 26 = .ok (.invokevirtual 38, 3) := by decide +kernel
theorem d_Cd_weigh_29 : decode prog_4_method_7_code 29 = .ok (.ifCond .eq 13, 3) := by decide +kernel
theorem d_Cd_weigh_32 : decode prog_4_method_7_code 32 = .ok (.aload_n 0, 1) := by decide +kernel
theorem d_Cd_weigh_33 : decode prog_4_method_7_code 33 = .ok (.getfield 18, 3) := by decide +kernel
theorem d_Cd_weigh_36 : decode prog_4_method_7_code 36 = .ok (.iload_n 3, 1) := by decide +kernel
theorem d_Cd_weigh_37 : decode prog_4_method_7_code 37 = .ok (.dup2, 1) := by decide +kernel
theorem d_Cd_weigh_38 : decode prog_4_method_7_code 38 = .ok (.iaload, 1) := by decide +kernel
theorem d_Cd_weigh_39 : decode prog_4_method_7_code 39 = .ok (.iconst 1, 1) := by decide +kernel
theorem d_Cd_weigh_40 : decode prog_4_method_7_code 40 = .ok (.iadd, 1) := by decide +kernel
theorem d_Cd_weigh_41 : decode prog_4_method_7_code 41 = .ok (.iastore, 1) := by decide +kernel
theorem d_Cd_weigh_42 : decode prog_4_method_7_code 42 = .ok (.iinc 2 1, 3) := by decide +kernel
theorem d_Cd_weigh_45 : decode prog_4_method_7_code 45 = .ok (.goto (-35), 3) := by decide +kernel
theorem d_Cd_weigh_48 : decode prog_4_method_7_code 48 = .ok (.iconst 0, 1) := by decide +kernel
theorem d_Cd_weigh_49 : decode prog_4_method_7_code 49 = .ok (.istore_n 2, 1) := by decide +kernel
theorem d_Cd_weigh_50 : decode prog_4_method_7_code 50 = .ok (.iload_n 2, 1) := by decide +kernel
theorem d_Cd_weigh_51 : decode prog_4_method_7_code 51 = .ok (.aload_n 0, 1) := by decide +kernel
theorem d_Cd_weigh_52 : decode prog_4_method_7_code 52 = .ok (.getfield 34, 3) := by decide +kernel
theorem d_Cd_weigh_55 : decode prog_4_method_7_code 55 = .ok (.if_icmp .ge 25, 3) := by decide +kernel
theorem d_Cd_weigh_58 : decode prog_4_method_7_code 58 = .ok (.aload_n 0, 1) := by decide +kernel
theorem d_Cd_weigh_59 : decode prog_4_method_7_code 59 = .ok (.getfield 18, 3) := by decide +kernel
theorem d_Cd_weigh_62 : decode prog_4_method_7_code 62 = .ok (.iload_n 2, 1) := by decide +kernel
theorem d_Cd_weigh_63 : decode prog_4_method_7_code 63 = .ok (.aload_n 0, 1) := by decide +kernel
theorem d_Cd_weigh_64 : decode prog_4_method_7_code 64 = .ok (.getfield 18, 3) := by decide +kernel
theorem d_Cd_weigh_67 : decode prog_4_method_7_code 67 = .ok (.iload_n 2, 1) := by decide +kernel
theorem d_Cd_weigh_68 : decode prog_4_method_7_code 68 = .ok (.iaload, 1) := by decide +kernel
theorem d_Cd_weigh_69 : decode prog_4_method_7_code 69 = .ok (.iconst 1, 1) := by decide +kernel
theorem d_Cd_weigh_70 : decode prog_4_method_7_code 70 = .ok (.invokestatic 75, 3) := by decide +kernel
theorem d_Cd_weigh_73 : decode prog_4_method_7_code 73 = .ok (.iastore, 1) := by decide +kernel
theorem d_Cd_weigh_74 : decode prog_4_method_7_code 74 = .ok (.iinc 2 1, 3) := by decide +kernel
theorem d_Cd_weigh_77 : decode prog_4_method_7_code 77 = .ok (.goto (-27), 3) := by decide +kernel
theorem d_Cd_weigh_80 : decode prog_4_method_7_code 80 = .ok (.return_, 1) := by decide +kernel
theorem d_Cd_beginLengths_0 : decode prog_4_method_8_code 0 = .ok (.aload_n 0, 1) := by decide +kernel
theorem d_Cd_beginLengths_1 : decode prog_4_method_8_code 1 = .ok (.iload_n 1, 1) := by decide +kernel
theorem d_Cd_beginLengths_2 : decode prog_4_method_8_code 2 = .ok (.iconst 0, 1) := by decide +kernel
theorem d_Cd_beginLengths_3 : decode prog_4_method_8_code 3 = .ok (.invokestatic 75, 3) := by decide +kernel
theorem d_Cd_beginLengths_6 : decode prog_4_method_8_code 6 = .ok (.sipush 258, 3) := by decide +kernel
theorem d_Cd_beginLengths_9 : decode prog_4_method_8_code 9 = .ok (.invokestatic 47, 3) := by decide +kernel
theorem d_Cd_beginLengths_12 : decode prog_4_method_8_code 12 = .ok (.putfield 34, 3) := by decide +kernel
theorem d_Cd_beginLengths_15 : decode prog_4_method_8_code 15 = .ok (.aload_n 0, 1) := by decide +kernel
theorem d_Cd_beginLengths_16 : decode prog_4_method_8_code 16 = .ok (.getfield 22, 3) := by decide +kernel
theorem d_Cd_beginLengths_19 : decode prog_4_method_8_code 19 = .ok (.bipush 12, 2) := by decide +kernel
theorem d_Cd_beginLengths_21 : decode prog_4_method_8_code 21 = .ok (.invokestatic 64, 3) := by decide +kernel
theorem d_Cd_beginLengths_24 : decode prog_4_method_8_code 24 = .ok (.return_, 1) := by decide +kernel
theorem d_Cd_setLength_0 : decode prog_4_method_9_code 0 = .ok (.aload_n 0, 1) := by decide +kernel
theorem d_Cd_setLength_1 : decode prog_4_method_9_code 1 = .ok (.iload_n 1, 1) := by decide +kernel
theorem d_Cd_setLength_2 : decode prog_4_method_9_code 2 = .ok (.invokevirtual 38, 3) := by decide +kernel
theorem d_Cd_setLength_5 : decode prog_4_method_9_code 5 = .ok (.ifCond .eq 10, 3) := by decide +kernel
theorem d_Cd_setLength_8 : decode prog_4_method_9_code 8 = .ok (.aload_n 0, 1) := by decide +kernel
theorem d_Cd_setLength_9 : decode prog_4_method_9_code 9 = .ok (.getfield 22, 3) := by decide +kernel
theorem d_Cd_setLength_12 : decode prog_4_method_9_code 12 = .ok (.iload_n 1, 1) := by decide +kernel
theorem d_Cd_setLength_13 : decode prog_4_method_9_code 13 = .ok (.iload_n 2, 1) := by decide +kernel
theorem d_Cd_setLength_14 : decode prog_4_method_9_code 14 = .ok (.iastore, 1) := by decide +kernel
theorem d_Cd_setLength_15 : decode prog_4_method_9_code 15 = .ok (.return_, 1) := by decide +kernel
theorem d_Cd_arrange_0 : decode prog_4_method_10_code 0 = .ok (.iconst 0, 1) := by decide +kernel
theorem d_Cd_arrange_1 : decode prog_4_method_10_code 1 = .ok (.istore_n 1, 1) := by decide +kernel
theorem d_Cd_arrange_2 : decode prog_4_method_10_code 2 = .ok (.iconst 0, 1) := by decide +kernel
theorem d_Cd_arrange_3 : decode prog_4_method_10_code 3 = .ok (.istore_n 2, 1) := by decide +kernel
theorem d_Cd_arrange_4 : decode prog_4_method_10_code 4 = .ok (.iconst 1, 1) := by decide +kernel
theorem d_Cd_arrange_5 : decode prog_4_method_10_code 5 = .ok (.istore_n 3, 1) := by decide +kernel
theorem d_Cd_arrange_6 : decode prog_4_method_10_code 6 = .ok (.iload_n 3, 1) := by decide +kernel
theorem d_Cd_arrange_7 : decode prog_4_method_10_code 7 = .ok (.bipush 12, 2) := by decide +kernel
theorem d_Cd_arrange_9 : decode prog_4_method_10_code 9 = .ok (.if_icmp .gt 77, 3) := by decide +kernel
theorem d_Cd_arrange_12 : decode prog_4_method_10_code 12 = .ok (.iload_n 1, 1) := by decide +kernel
theorem d_Cd_arrange_13 : decode prog_4_method_10_code 13 = .ok (.istore 4, 2) := by decide +kernel
theorem d_Cd_arrange_15 : decode prog_4_method_10_code 15 = .ok (.iload_n 2, 1) := by decide +kernel
theorem d_Cd_arrange_16 : decode prog_4_method_10_code 16 = .ok (.iconst 1, 1) := by decide +kernel
theorem d_Cd_arrange_17 : decode prog_4_method_10_code 17 = .ok (.ishl, 1) := by decide +kernel
theorem d_Cd_arrange_18 : decode prog_4_method_10_code 18 = .ok (.istore_n 2, 1) := by decide +kernel
theorem d_Cd_arrange_19 : decode prog_4_method_10_code 19 = .ok (.iconst 0, 1) := by decide +kernel
theorem d_Cd_arrange_20 : decode prog_4_method_10_code 20 = .ok (.istore 5, 2) := by decide +kernel
theorem d_Cd_arrange_22 : decode prog_4_method_10_code 22 = .ok (.iload 5, 2) := by decide +kernel
theorem d_Cd_arrange_24 : decode prog_4_method_10_code 24 = .ok (.aload_n 0, 1) := by decide +kernel
theorem d_Cd_arrange_25 : decode prog_4_method_10_code 25 = .ok (.getfield 34, 3) := by decide +kernel
theorem d_Cd_arrange_28 : decode prog_4_method_10_code 28 = .ok (.if_icmp .ge 42, 3) := by decide +kernel
theorem d_Cd_arrange_31 : decode prog_4_method_10_code 31 = .ok (.aload_n 0, 1) := by decide +kernel
theorem d_Cd_arrange_32 : decode prog_4_method_10_code 32 = .ok (.getfield 22, 3) := by decide +kernel
theorem d_Cd_arrange_35 : decode prog_4_method_10_code 35 = .ok (.iload 5, 2) := by decide +kernel
theorem d_Cd_arrange_37 : decode prog_4_method_10_code 37 = .ok (.iaload, 1) := by decide +kernel
theorem d_Cd_arrange_38 : decode prog_4_method_10_code 38 = .ok (.iload_n 3, 1) := by decide +kernel
theorem d_Cd_arrange_39 : decode prog_4_method_10_code 39 = .ok (.if_icmp .ne 25, 3) := by decide +kernel
theorem d_Cd_arrange_42 : decode prog_4_method_10_code 42 = .ok (.aload_n 0, 1) := by decide +kernel
theorem d_Cd_arrange_43 : decode prog_4_method_10_code 43 = .ok (.getfield 28, 3) := by decide +kernel
theorem d_Cd_arrange_46 : decode prog_4_method_10_code 46 = .ok (.iload_n 1, 1) := by decide +kernel
theorem d_Cd_arrange_47 : decode prog_4_method_10_code 47 = .ok (.iload 5, 2) := by decide +kernel
theorem d_Cd_arrange_49 : decode prog_4_method_10_code 49 = .ok (.iastore, 1) := by decide +kernel
theorem d_Cd_arrange_50 : decode prog_4_method_10_code 50 = .ok (.aload_n 0, 1) := by decide +kernel
theorem d_Cd_arrange_51 : decode prog_4_method_10_code 51 = .ok (.getfield 25, 3) := by decide +kernel
theorem d_Cd_arrange_54 : decode prog_4_method_10_code 54 = .ok (.iload 5, 2) := by decide +kernel
theorem d_Cd_arrange_56 : decode prog_4_method_10_code 56 = .ok (.iload_n 2, 1) := by decide +kernel
theorem d_Cd_arrange_57 : decode prog_4_method_10_code 57 = .ok (.iastore, 1) := by decide +kernel
theorem d_Cd_arrange_58 : decode prog_4_method_10_code 58 = .ok (.iinc 2 1, 3) := by decide +kernel
theorem d_Cd_arrange_61 : decode prog_4_method_10_code 61 = .ok (.iinc 1 1, 3) := by decide +kernel
theorem d_Cd_arrange_64 : decode prog_4_method_10_code 64 = .ok (.iinc 5 1, 3) := by decide +kernel
theorem d_Cd_arrange_67 : decode prog_4_method_10_code 67 = .ok (.goto (-45), 3) := by decide +kernel
theorem d_Cd_arrange_70 : decode prog_4_method_10_code 70 = .ok (.aload_n 0, 1) := by decide +kernel
theorem d_Cd_arrange_71 : decode prog_4_method_10_code 71 = .ok (.getfield 31, 3) := by decide +kernel
theorem d_Cd_arrange_74 : decode prog_4_method_10_code 74 = .ok (.iload_n 3, 1) := by decide +kernel
theorem d_Cd_arrange_75 : decode prog_4_method_10_code 75 = .ok (.iload_n 1, 1) := by decide +kernel
theorem d_Cd_arrange_76 : decode prog_4_method_10_code 76 = .ok (.iload 4, 2) := by decide +kernel
theorem d_Cd_arrange_78 : decode prog_4_method_10_code 78 = .ok (.isub, 1) := by decide +kernel
theorem d_Cd_arrange_79 : decode prog_4_method_10_code 79 = .ok (.iastore, 1) := by decide +kernel
theorem d_Cd_arrange_80 : decode prog_4_method_10_code 80 = .ok (.iinc 3 1, 3) := by decide +kernel
theorem d_Cd_arrange_83 : decode prog_4_method_10_code 83 = .ok (.goto (-77), 3) := by decide +kernel
theorem d_Cd_arrange_86 : decode prog_4_method_10_code 86 = .ok (.return_, 1) := by decide +kernel
theorem d_Cd_areWhole_0 : decode prog_4_method_11_code 0 = .ok (.iconst 0, 1) := by decide +kernel
theorem d_Cd_areWhole_1 : decode prog_4_method_11_code 1 = .ok (.istore_n 1, 1) := by decide +kernel
theorem d_Cd_areWhole_2 : decode prog_4_method_11_code 2 = .ok (.iconst 1, 1) := by decide +kernel
theorem d_Cd_areWhole_3 : decode prog_4_method_11_code 3 = .ok (.istore_n 2, 1) := by decide +kernel
theorem d_Cd_areWhole_4 : decode prog_4_method_11_code 4 = .ok (.iload_n 2, 1) := by decide +kernel
theorem d_Cd_areWhole_5 : decode prog_4_method_11_code 5 = .ok (.bipush 12, 2) := by decide +kernel
theorem d_Cd_areWhole_7 : decode prog_4_method_11_code 7 = .ok (.if_icmp .gt 23, 3) := by decide +kernel
theorem d_Cd_areWhole_10 : decode prog_4_method_11_code 10 = .ok (.iload_n 1, 1) := by decide +kernel
theorem d_Cd_areWhole_11 : decode prog_4_method_11_code 11 = .ok (.aload_n 0, 1) := by decide +kernel
theorem d_Cd_areWhole_12 : decode prog_4_method_11_code 12 = .ok (.getfield 31, 3) := by decide +kernel
theorem d_Cd_areWhole_15 : decode prog_4_method_11_code 15 = .ok (.iload_n 2, 1) := by decide +kernel
theorem d_Cd_areWhole_16 : decode prog_4_method_11_code 16 = .ok (.iaload, 1) := by decide +kernel
theorem d_Cd_areWhole_17 : decode prog_4_method_11_code 17 = .ok (.bipush 12, 2) := by decide +kernel
theorem d_Cd_areWhole_19 : decode prog_4_method_11_code 19 = .ok (.iload_n 2, 1) := by decide +kernel
theorem d_Cd_areWhole_20 : decode prog_4_method_11_code 20 = .ok (.isub, 1) := by decide +kernel
theorem d_Cd_areWhole_21 : decode prog_4_method_11_code 21 = .ok (.ishl, 1) := by decide +kernel
theorem d_Cd_areWhole_22 : decode prog_4_method_11_code 22 = .ok (.iadd, 1) := by decide +kernel
theorem d_Cd_areWhole_23 : decode prog_4_method_11_code 23 = .ok (.istore_n 1, 1) := by decide +kernel
theorem d_Cd_areWhole_24 : decode prog_4_method_11_code 24 = .ok (.iinc 2 1, 3) := by decide +kernel
theorem d_Cd_areWhole_27 : decode prog_4_method_11_code 27 = .ok (.goto (-23), 3) := by decide +kernel
theorem d_Cd_areWhole_30 : decode prog_4_method_11_code 30 = .ok (.iload_n 1, 1) := by decide +kernel
theorem d_Cd_areWhole_31 : decode prog_4_method_11_code 31 = .ok (.sipush 4096, 3) := by decide +kernel
theorem d_Cd_areWhole_34 : decode prog_4_method_11_code 34 = .ok (.if_icmp .ne 7, 3) := by decide +kernel
theorem d_Cd_areWhole_37 : decode prog_4_method_11_code 37 = .ok (.iconst 1, 1) := by decide +kernel
theorem d_Cd_areWhole_38 : decode prog_4_method_11_code 38 = .ok (.goto 4, 3) := by decide +kernel
theorem d_Cd_areWhole_41 : decode prog_4_method_11_code 41 = .ok (.iconst 0, 1) := by decide +kernel
theorem d_Cd_areWhole_42 : decode prog_4_method_11_code 42 = .ok (.ireturn, 1) := by decide +kernel
theorem d_Fl_init_0 : decode prog_5_method_1_code 0 = .ok (.aload_n 0, 1) := by decide +kernel
theorem d_Fl_init_1 : decode prog_5_method_1_code 1 = .ok (.invokespecial 3, 3) := by decide +kernel
theorem d_Fl_init_4 : decode prog_5_method_1_code 4 = .ok (.aload_n 0, 1) := by decide +kernel
theorem d_Fl_init_5 : decode prog_5_method_1_code 5 = .ok (.sipush 256, 3) := by decide +kernel
theorem d_Fl_init_8 : decode prog_5_method_1_code 8 = .ok (.newarray .int, 2) := by decide +kernel
theorem d_Fl_init_10 : decode prog_5_method_1_code 10 = .ok (.putfield 9, 3) := by decide +kernel
theorem d_Fl_init_13 : decode prog_5_method_1_code 13 = .ok (.return_, 1) := by decide +kernel
theorem d_Fl_makeEmpty_0 : decode prog_5_method_2_code 0 = .ok (.aload_n 0, 1) := by decide +kernel
theorem d_Fl_makeEmpty_1 : decode prog_5_method_2_code 1 = .ok (.iconst 0, 1) := by decide +kernel
theorem d_Fl_makeEmpty_2 : decode prog_5_method_2_code 2 = .ok (.putfield 15, 3) := by decide +kernel
theorem d_Fl_makeEmpty_5 : decode prog_5_method_2_code 5 = .ok (.return_, 1) := by decide +kernel
theorem d_Fl_add_0 : decode prog_5_method_3_code 0 = .ok (.aload_n 0, 1) := by decide +kernel
theorem d_Fl_add_1 : decode prog_5_method_3_code 1 = .ok (.getfield 15, 3) := by decide +kernel
theorem d_Fl_add_4 : decode prog_5_method_3_code 4 = .ok (.sipush 256, 3) := by decide +kernel
theorem d_Fl_add_7 : decode prog_5_method_3_code 7 = .ok (.if_icmp .ge 23, 3) := by decide +kernel
theorem d_Fl_add_10 : decode prog_5_method_3_code 10 = .ok (.aload_n 0, 1) := by decide +kernel
theorem d_Fl_add_11 : decode prog_5_method_3_code 11 = .ok (.getfield 9, 3) := by decide +kernel
theorem d_Fl_add_14 : decode prog_5_method_3_code 14 = .ok (.aload_n 0, 1) := by decide +kernel
theorem d_Fl_add_15 : decode prog_5_method_3_code 15 = .ok (.getfield 15, 3) := by decide +kernel
theorem d_Fl_add_18 : decode prog_5_method_3_code 18 = .ok (.iload_n 1, 1) := by decide +kernel
theorem d_Fl_add_19 : decode prog_5_method_3_code 19 = .ok (.iastore, 1) := by decide +kernel
theorem d_Fl_add_20 : decode prog_5_method_3_code 20 = .ok (.aload_n 0, 1) := by decide +kernel
theorem d_Fl_add_21 : decode prog_5_method_3_code 21 = .ok (.dup, 1) := by decide +kernel
theorem d_Fl_add_22 : decode prog_5_method_3_code 22 = .ok (.getfield 15, 3) := by decide +kernel
theorem d_Fl_add_25 : decode prog_5_method_3_code 25 = .ok (.iconst 1, 1) := by decide +kernel
theorem d_Fl_add_26 : decode prog_5_method_3_code 26 = .ok (.iadd, 1) := by decide +kernel
theorem d_Fl_add_27 : decode prog_5_method_3_code 27 = .ok (.putfield 15, 3) := by decide +kernel
theorem d_Fl_add_30 : decode prog_5_method_3_code 30 = .ok (.return_, 1) := by decide +kernel
theorem d_Fl_listBytes_0 : decode prog_5_method_4_code 0 = .ok (.aload_n 0, 1) := by decide +kernel
theorem d_Fl_listBytes_1 : decode prog_5_method_4_code 1 = .ok (.getfield 9, 3) := by decide +kernel
theorem d_Fl_listBytes_4 : decode prog_5_method_4_code 4 = .ok (.iconst 0, 1) := by decide +kernel
theorem d_Fl_listBytes_5 : decode prog_5_method_4_code 5 = .ok (.invokestatic 19, 3) := by decide +kernel
theorem d_Fl_listBytes_8 : decode prog_5_method_4_code 8 = .ok (.iconst 0, 1) := by decide +kernel
theorem d_Fl_listBytes_9 : decode prog_5_method_4_code 9 = .ok (.istore_n 2, 1) := by decide +kernel
theorem d_Fl_listBytes_10 : decode prog_5_method_4_code 10 = .ok (.iload_n 2, 1) := by decide +kernel
theorem d_Fl_listBytes_11 : decode prog_5_method_4_code 11 = .ok (.aload_n 1, 1) := by decide +kernel
theorem d_Fl_listBytes_12 : decode prog_5_method_4_code 12 = .ok (.getfield 25, 3) := by decide +kernel
theorem d_Fl_listBytes_15 : decode prog_5_method_4_code 15 = .ok (.if_icmp .ge 20, 3) := by decide +kernel
theorem d_Fl_listBytes_18 : decode prog_5_method_4_code 18 = .ok (.aload_n 0, 1) := by decide +kernel
theorem d_Fl_listBytes_19 : decode prog_5_method_4_code 19 = .ok (.getfield 9, 3) := by decide +kernel
theorem d_Fl_listBytes_22 : decode prog_5_method_4_code 22 = .ok (.aload_n 1, 1) := by decide +kernel
theorem d_Fl_listBytes_23 : decode prog_5_method_4_code 23 = .ok (.iload_n 2, 1) := by decide +kernel
theorem d_Fl_listBytes_24 : decode prog_5_method_4_code 24 = .ok (.invokevirtual 28, 3) := by decide +kernel
theorem d_Fl_listBytes_27 : decode prog_5_method_4_code 27 = .ok (.iconst 1, 1) := by decide +kernel
theorem d_Fl_listBytes_28 : decode prog_5_method_4_code 28 = .ok (.iastore, 1) := by decide +kernel
theorem d_Fl_listBytes_29 : decode prog_5_method_4_code 29 = .ok (.iinc 2 1, 3) := by decide +kernel
theorem d_Fl_listBytes_32 : decode prog_5_method_4_code 32 = .ok (.goto (-22), 3) := by decide +kernel
theorem d_Fl_listBytes_35 : decode prog_5_method_4_code 35 = .ok (.aload_n 0, 1) := by decide +kernel
theorem d_Fl_listBytes_36 : decode prog_5_method_4_code 36 = .ok (.iconst 0, 1) := by decide +kernel
theorem d_Fl_listBytes_37 : decode prog_5_method_4_code 37 = .ok (.putfield 15, 3) := by decide +kernel
theorem d_Fl_listBytes_40 : decode prog_5_method_4_code 40 = .ok (.iconst 0, 1) := by decide +kernel
theorem d_Fl_listBytes_41 : decode prog_5_method_4_code 41 = .ok (.istore_n 2, 1) := by decide +kernel
theorem d_Fl_listBytes_42 : decode prog_5_method_4_code 42 = .ok (.iload_n 2, 1) := by decide +kernel
theorem d_Fl_listBytes_43 : decode prog_5_method_4_code 43 = .ok (.sipush 256, 3) := by decide +kernel
theorem d_Fl_listBytes_46 : decode prog_5_method_4_code 46 = .ok (.if_icmp .ge 39, 3) := by decide +kernel
theorem d_Fl_listBytes_49 : decode prog_5_method_4_code 49 = .ok (.aload_n 0, 1) := by decide +kernel
theorem d_Fl_listBytes_50 : decode prog_5_method_4_code 50 = .ok (.getfield 9, 3) := by decide +kernel
theorem d_Fl_listBytes_53 : decode prog_5_method_4_code 53 = .ok (.iload_n 2, 1) := by decide +kernel
theorem d_Fl_listBytes_54 : decode prog_5_method_4_code 54 = .ok (.iaload, 1) := by decide +kernel
theorem d_Fl_listBytes_55 : decode prog_5_method_4_code 55 = .ok (.iconst 1, 1) := by decide +kernel
theorem d_Fl_listBytes_56 : decode prog_5_method_4_code 56 = .ok (.if_icmp .ne 23, 3) := by decide +kernel
theorem d_Fl_listBytes_59 : decode prog_5_method_4_code 59 = .ok (.aload_n 0, 1) := by decide +kernel
theorem d_Fl_listBytes_60 : decode prog_5_method_4_code 60 = .ok (.getfield 9, 3) := by decide +kernel
theorem d_Fl_listBytes_63 : decode prog_5_method_4_code 63 = .ok (.aload_n 0, 1) := by decide +kernel
theorem d_Fl_listBytes_64 : decode prog_5_method_4_code 64 = .ok (.getfield 15, 3) := by decide +kernel
theorem d_Fl_listBytes_67 : decode prog_5_method_4_code 67 = .ok (.iload_n 2, 1) := by decide +kernel
theorem d_Fl_listBytes_68 : decode prog_5_method_4_code 68 = .ok (.iastore, 1) := by decide +kernel
theorem d_Fl_listBytes_69 : decode prog_5_method_4_code 69 = .ok (.aload_n 0, 1) := by decide +kernel
theorem d_Fl_listBytes_70 : decode prog_5_method_4_code 70 = .ok (.dup, 1) := by decide +kernel
theorem d_Fl_listBytes_71 : decode prog_5_method_4_code 71 = .ok (.getfield 15, 3) := by decide +kernel
theorem d_Fl_listBytes_74 : decode prog_5_method_4_code 74 = .ok (.iconst 1, 1) := by decide +kernel
theorem d_Fl_listBytes_75 : decode prog_5_method_4_code 75 = .ok (.iadd, 1) := by decide +kernel
theorem d_Fl_listBytes_76 : decode prog_5_method_4_code 76 = .ok (.putfield 15, 3) := by decide +kernel
theorem d_Fl_listBytes_79 : decode prog_5_method_4_code 79 = .ok (.iinc 2 1, 3) := by decide +kernel
theorem d_Fl_listBytes_82 : decode prog_5_method_4_code 82 = .ok (.goto (-40), 3) := by decide +kernel
theorem d_Fl_listBytes_85 : decode prog_5_method_4_code 85 = .ok (.return_, 1) := by decide +kernel
theorem d_Fl_placeOf_0 : decode prog_5_method_5_code 0 = .ok (.iconst 0, 1) := by decide +kernel
theorem d_Fl_placeOf_1 : decode prog_5_method_5_code 1 = .ok (.istore_n 2, 1) := by decide +kernel
theorem d_Fl_placeOf_2 : decode prog_5_method_5_code 2 = .ok (.iload_n 2, 1) := by decide +kernel
theorem d_Fl_placeOf_3 : decode prog_5_method_5_code 3 = .ok (.aload_n 0, 1) := by decide +kernel
theorem d_Fl_placeOf_4 : decode prog_5_method_5_code 4 = .ok (.getfield 15, 3) := by decide +kernel
theorem d_Fl_placeOf_7 : decode prog_5_method_5_code 7 = .ok (.if_icmp .ge 19, 3) := by decide +kernel
theorem d_Fl_placeOf_10 : decode prog_5_method_5_code 10 = .ok (.aload_n 0, 1) := by decide +kernel
theorem d_Fl_placeOf_11 : decode prog_5_method_5_code 11 = .ok (.getfield 9, 3) := by decide +kernel
theorem d_Fl_placeOf_14 : decode prog_5_method_5_code 14 = .ok (.iload_n 2, 1) := by decide +kernel
theorem d_Fl_placeOf_15 : decode prog_5_method_5_code 15 = .ok (.iaload, 1) := by decide +kernel
theorem d_Fl_placeOf_16 : decode prog_5_method_5_code 16 = .ok (.iload_n 1, 1) := by decide +kernel
theorem d_Fl_placeOf_17 : decode prog_5_method_5_code 17 = .ok (.if_icmp .eq 9, 3) := by decide +kernel
theorem d_Fl_placeOf_20 : decode prog_5_method_5_code 20 = .ok (.iinc 2 1, 3) := by decide +kernel
theorem d_Fl_placeOf_23 : decode prog_5_method_5_code 23 = .ok (.goto (-21), 3) := by decide +kernel
theorem d_Fl_placeOf_26 : decode prog_5_method_5_code 26 = .ok (.iload_n 2, 1) := by decide +kernel
theorem d_Fl_placeOf_27 : decode prog_5_method_5_code 27 = .ok (.ireturn, 1) := by decide +kernel

theorem d_Sr_byteNow_0 : decode prog_8_method_7_code 0 = .ok (.aload_n 0, 1) := by decide +kernel
theorem d_Sr_byteNow_1 : decode prog_8_method_7_code 1 = .ok (.getfield 27, 3) := by decide +kernel
theorem d_Sr_byteNow_4 : decode prog_8_method_7_code 4 = .ok (.bipush 8, 2) := by decide +kernel
theorem d_Sr_byteNow_6 : decode prog_8_method_7_code 6 = .ok (.idiv, 1) := by decide +kernel
theorem d_Sr_byteNow_7 : decode prog_8_method_7_code 7 = .ok (.ireturn, 1) := by decide +kernel
theorem d_Sr_readHead_0 : decode prog_8_method_8_code 0 = .ok (.aload_n 0, 1) := by decide +kernel
theorem d_Sr_readHead_1 : decode prog_8_method_8_code 1 = .ok (.bipush 16, 2) := by decide +kernel
theorem d_Sr_readHead_3 : decode prog_8_method_8_code 3 = .ok (.invokevirtual 88, 3) := by decide +kernel
theorem d_Sr_readHead_6 : decode prog_8_method_8_code 6 = .ok (.ifCond .eq 8, 3) := by decide +kernel
theorem d_Sr_readHead_9 : decode prog_8_method_8_code 9 = .ok (.aload_n 0, 1) := by decide +kernel
theorem d_Sr_readHead_10 : decode prog_8_method_8_code 10 = .ok (.invokevirtual 100, 3) := by decide +kernel
theorem d_Sr_readHead_13 : decode prog_8_method_8_code 13 = .ok (.ireturn, 1) := by decide +kernel
theorem d_Sr_readHead_14 : decode prog_8_method_8_code 14 = .ok (.aload_n 0, 1) := by decide +kernel
theorem d_Sr_readHead_15 : decode prog_8_method_8_code 15 = .ok (.bipush 16, 2) := by decide +kernel
theorem d_Sr_readHead_17 : decode prog_8_method_8_code 17 = .ok (.invokevirtual 103, 3) := by decide +kernel
theorem d_Sr_readHead_20 : decode prog_8_method_8_code 20 = .ok (.sipush 21332, 3) := by decide +kernel
theorem d_Sr_readHead_23 : decode prog_8_method_8_code 23 = .ok (.if_icmp .eq 10, 3) := by decide +kernel
theorem d_Sr_readHead_26 : decode prog_8_method_8_code 26 = .ok (.aload_n 0, 1) := by decide +kernel
theorem d_Sr_readHead_27 : decode prog_8_method_8_code 27 = .ok (.iconst 2, 1) := by decide +kernel
theorem d_Sr_readHead_28 : decode prog_8_method_8_code 28 = .ok (.iconst 0, 1) := by decide +kernel
theorem d_Sr_readHead_29 : decode prog_8_method_8_code 29 = .ok (.invokevirtual 84, 3) := by decide +kernel
theorem d_Sr_readHead_32 : decode prog_8_method_8_code 32 = .ok (.ireturn, 1) := by decide +kernel
theorem d_Sr_readHead_33 : decode prog_8_method_8_code 33 = .ok (.aload_n 0, 1) := by decide +kernel
theorem d_Sr_readHead_34 : decode prog_8_method_8_code 34 = .ok (.bipush 16, 2) := by decide +kernel
theorem d_Sr_readHead_36 : decode prog_8_method_8_code 36 = .ok (.invokevirtual 88, 3) := by decide +kernel
theorem d_Sr_readHead_39 : decode prog_8_method_8_code 39 = .ok (.ifCond .eq 8, 3) := by decide +kernel
theorem d_Sr_readHead_42 : decode prog_8_method_8_code 42 = .ok (.aload_n 0, 1) := by decide +kernel
theorem d_Sr_readHead_43 : decode prog_8_method_8_code 43 = .ok (.invokevirtual 100, 3) := by decide +kernel
theorem d_Sr_readHead_46 : decode prog_8_method_8_code 46 = .ok (.ireturn, 1) := by decide +kernel
theorem d_Sr_readHead_47 : decode prog_8_method_8_code 47 = .ok (.aload_n 0, 1) := by decide +kernel
theorem d_Sr_readHead_48 : decode prog_8_method_8_code 48 = .ok (.aload_n 0, 1) := by decide +kernel
theorem d_Sr_readHead_49 : decode prog_8_method_8_code 49 = .ok (.bipush 16, 2) := by decide +kernel
theorem d_Sr_readHead_51 : decode prog_8_method_8_code 51 = .ok (.invokevirtual 103, 3) := by decide +kernel
theorem d_Sr_readHead_54 : decode prog_8_method_8_code 54 = .ok (.putfield 56, 3) := by decide +kernel
theorem d_Sr_readHead_57 : decode prog_8_method_8_code 57 = .ok (.aload_n 0, 1) := by decide +kernel
theorem d_Sr_readHead_58 : decode prog_8_method_8_code 58 = .ok (.getfield 56, 3) := by decide +kernel
theorem d_Sr_readHead_61 : decode prog_8_method_8_code 61 = .ok (.sipush 900, 3) := by decide +kernel
theorem d_Sr_readHead_64 : decode prog_8_method_8_code 64 = .ok (.if_icmp .le 10, 3) := by decide +kernel
theorem d_Sr_readHead_67 : decode prog_8_method_8_code 67 = .ok (.aload_n 0, 1) := by decide +kernel
theorem d_Sr_readHead_68 : decode prog_8_method_8_code 68 = .ok (.iconst 3, 1) := by decide +kernel
theorem d_Sr_readHead_69 : decode prog_8_method_8_code 69 = .ok (.iconst 2, 1) := by decide +kernel
theorem d_Sr_readHead_70 : decode prog_8_method_8_code 70 = .ok (.invokevirtual 84, 3) := by decide +kernel
theorem d_Sr_readHead_73 : decode prog_8_method_8_code 73 = .ok (.ireturn, 1) := by decide +kernel
theorem d_Sr_readHead_74 : decode prog_8_method_8_code 74 = .ok (.aload_n 0, 1) := by decide +kernel
theorem d_Sr_readHead_75 : decode prog_8_method_8_code 75 = .ok (.bipush 16, 2) := by decide +kernel
theorem d_Sr_readHead_77 : decode prog_8_method_8_code 77 = .ok (.invokevirtual 88, 3) := by decide +kernel
theorem d_Sr_readHead_80 : decode prog_8_method_8_code 80 = .ok (.ifCond .eq 8, 3) := by decide +kernel
theorem d_Sr_readHead_83 : decode prog_8_method_8_code 83 = .ok (.aload_n 0, 1) := by decide +kernel
theorem d_Sr_readHead_84 : decode prog_8_method_8_code 84 = .ok (.invokevirtual 100, 3) := by decide +kernel
theorem d_Sr_readHead_87 : decode prog_8_method_8_code 87 = .ok (.ireturn, 1) := by decide +kernel
theorem d_Sr_readHead_88 : decode prog_8_method_8_code 88 = .ok (.aload_n 0, 1) := by decide +kernel
theorem d_Sr_readHead_89 : decode prog_8_method_8_code 89 = .ok (.aload_n 0, 1) := by decide +kernel
theorem d_Sr_readHead_90 : decode prog_8_method_8_code 90 = .ok (.bipush 16, 2) := by decide +kernel
theorem d_Sr_readHead_92 : decode prog_8_method_8_code 92 = .ok (.invokevirtual 103, 3) := by decide +kernel
theorem d_Sr_readHead_95 : decode prog_8_method_8_code 95 = .ok (.putfield 106, 3) := by decide +kernel
theorem d_Sr_readHead_98 : decode prog_8_method_8_code 98 = .ok (.aload_n 0, 1) := by decide +kernel
theorem d_Sr_readHead_99 : decode prog_8_method_8_code 99 = .ok (.getfield 106, 3) := by decide +kernel
theorem d_Sr_readHead_102 : decode prog_8_method_8_code 102 = .ok (.ifCond .eq 21, 3) := by decide +kernel
theorem d_Sr_readHead_105 : decode prog_8_method_8_code 105 = .ok (.aload_n 0, 1) := by decide +kernel
theorem d_Sr_readHead_106 : decode prog_8_method_8_code 106 = .ok (.getfield 106, 3) := by decide +kernel
theorem d_Sr_readHead_109 : decode prog_8_method_8_code 109 = .ok (.aload_n 0, 1) := by decide +kernel
theorem d_Sr_readHead_110 : decode prog_8_method_8_code 110 = .ok (.getfield 56, 3) := by decide +kernel
theorem d_Sr_readHead_113 : decode prog_8_method_8_code 113 = .ok (.if_icmp .lt 10, 3) := by decide +kernel
theorem d_Sr_readHead_116 : decode prog_8_method_8_code 116 = .ok (.aload_n 0, 1) := by decide +kernel
theorem d_Sr_readHead_117 : decode prog_8_method_8_code 117 = .ok (.iconst 4, 1) := by decide +kernel
theorem d_Sr_readHead_118 : decode prog_8_method_8_code 118 = .ok (.iconst 4, 1) := by decide +kernel
theorem d_Sr_readHead_119 : decode prog_8_method_8_code 119 = .ok (.invokevirtual 84, 3) := by decide +kernel
theorem d_Sr_readHead_122 : decode prog_8_method_8_code 122 = .ok (.ireturn, 1) := by decide +kernel
theorem d_Sr_readHead_123 : decode prog_8_method_8_code 123 = .ok (.aload_n 0, 1) := by decide +kernel
theorem d_Sr_readHead_124 : decode prog_8_method_8_code 124 = .ok (.bipush 32, 2) := by decide +kernel
theorem d_Sr_readHead_126 : decode prog_8_method_8_code 126 = .ok (.invokevirtual 88, 3) := by decide +kernel
theorem d_Sr_readHead_129 : decode prog_8_method_8_code 129 = .ok (.ifCond .eq 8, 3) := by decide +kernel
theorem d_Sr_readHead_132 : decode prog_8_method_8_code 132 = .ok (.aload_n 0, 1) := by decide +kernel
theorem d_Sr_readHead_133 : decode prog_8_method_8_code 133 = .ok (.invokevirtual 100, 3) := by decide +kernel
theorem d_Sr_readHead_136 : decode prog_8_method_8_code 136 = .ok (.ireturn, 1) := by decide +kernel
theorem d_Sr_readHead_137 : decode prog_8_method_8_code 137 = .ok (.aload_n 0, 1) := by decide +kernel
theorem d_Sr_readHead_138 : decode prog_8_method_8_code 138 = .ok (.aload_n 0, 1) := by decide +kernel
theorem d_Sr_readHead_139 : decode prog_8_method_8_code 139 = .ok (.bipush 32, 2) := by decide +kernel
theorem d_Sr_readHead_141 : decode prog_8_method_8_code 141 = .ok (.invokevirtual 103, 3) := by decide +kernel
theorem d_Sr_readHead_144 : decode prog_8_method_8_code 144 = .ok (.putfield 109, 3) := by decide +kernel
theorem d_Sr_readHead_147 : decode prog_8_method_8_code 147 = .ok (.iconst 1, 1) := by decide +kernel
theorem d_Sr_readHead_148 : decode prog_8_method_8_code 148 = .ok (.ireturn, 1) := by decide +kernel
theorem d_Sr_readList_0 : decode prog_8_method_9_code 0 = .ok (.aload_n 1, 1) := by decide +kernel
theorem d_Sr_readList_1 : decode prog_8_method_9_code 1 = .ok (.invokevirtual 112, 3) := by decide +kernel
theorem d_Sr_readList_4 : decode prog_8_method_9_code 4 = .ok (.aload_n 0, 1) := by decide +kernel
theorem d_Sr_readList_5 : decode prog_8_method_9_code 5 = .ok (.invokevirtual 92, 3) := by decide +kernel
theorem d_Sr_readList_8 : decode prog_8_method_9_code 8 = .ok (.istore_n 2, 1) := by decide +kernel
theorem d_Sr_readList_9 : decode prog_8_method_9_code 9 = .ok (.aload_n 0, 1) := by decide +kernel
theorem d_Sr_readList_10 : decode prog_8_method_9_code 10 = .ok (.bipush 16, 2) := by decide +kernel
theorem d_Sr_readList_12 : decode prog_8_method_9_code 12 = .ok (.invokevirtual 88, 3) := by decide +kernel
theorem d_Sr_readList_15 : decode prog_8_method_9_code 15 = .ok (.ifCond .eq 8, 3) := by decide +kernel
theorem d_Sr_readList_18 : decode prog_8_method_9_code 18 = .ok (.aload_n 0, 1) := by decide +kernel
theorem d_Sr_readList_19 : decode prog_8_method_9_code 19 = .ok (.invokevirtual 100, 3) := by decide +kernel
theorem d_Sr_readList_22 : decode prog_8_method_9_code 22 = .ok (.ireturn, 1) := by decide +kernel
theorem d_Sr_readList_23 : decode prog_8_method_9_code 23 = .ok (.aload_n 0, 1) := by decide +kernel
theorem d_Sr_readList_24 : decode prog_8_method_9_code 24 = .ok (.bipush 16, 2) := by decide +kernel
theorem d_Sr_readList_26 : decode prog_8_method_9_code 26 = .ok (.invokevirtual 103, 3) := by decide +kernel
theorem d_Sr_readList_29 : decode prog_8_method_9_code 29 = .ok (.istore_n 3, 1) := by decide +kernel
theorem d_Sr_readList_30 : decode prog_8_method_9_code 30 = .ok (.iload_n 3, 1) := by decide +kernel
theorem d_Sr_readList_31 : decode prog_8_method_9_code 31 = .ok (.ifCond .ne 10, 3) := by decide +kernel
theorem d_Sr_readList_34 : decode prog_8_method_9_code 34 = .ok (.aload_n 0, 1) := by decide +kernel
theorem d_Sr_readList_35 : decode prog_8_method_9_code 35 = .ok (.iconst 5, 1) := by decide +kernel
theorem d_Sr_readList_36 : decode prog_8_method_9_code 36 = .ok (.iload_n 2, 1) := by decide +kernel
theorem d_Sr_readList_37 : decode prog_8_method_9_code 37 = .ok (.invokevirtual 84, 3) := by decide +kernel
theorem d_Sr_readList_40 : decode prog_8_method_9_code 40 = .ok (.ireturn, 1) := by decide +kernel
theorem d_Sr_readList_41 : decode prog_8_method_9_code 41 = .ok (.iconst 0, 1) := by decide +kernel
theorem d_Sr_readList_42 : decode prog_8_method_9_code 42 = .ok (.istore 4, 2) := by decide +kernel
theorem d_Sr_readList_44 : decode prog_8_method_9_code 44 = .ok (.iload 4, 2) := by decide +kernel
theorem d_Sr_readList_46 : decode prog_8_method_9_code 46 = .ok (.bipush 16, 2) := by decide +kernel
theorem d_Sr_readList_48 : decode prog_8_method_9_code 48 = .ok (.if_icmp .ge 30, 3) := by decide +kernel
theorem d_Sr_readList_51 : decode prog_8_method_9_code 51 = .ok (.iload_n 3, 1) := by decide +kernel
theorem d_Sr_readList_52 : decode prog_8_method_9_code 52 = .ok (.iload 4, 2) := by decide +kernel
theorem d_Sr_readList_54 : decode prog_8_method_9_code 54 = .ok (.invokestatic 115, 3) := by decide +kernel
theorem d_Sr_readList_57 : decode prog_8_method_9_code 57 = .ok (.ifCond .eq 15, 3) := by decide +kernel
theorem d_Sr_readList_60 : decode prog_8_method_9_code 60 = .ok (.aload_n 0, 1) := by decide +kernel
theorem d_Sr_readList_61 : decode prog_8_method_9_code 61 = .ok (.aload_n 1, 1) := by decide +kernel
theorem d_Sr_readList_62 : decode prog_8_method_9_code 62 = .ok (.iload 4, 2) := by decide +kernel
theorem d_Sr_readList_64 : decode prog_8_method_9_code 64 = .ok (.invokevirtual 118, 3) := by decide +kernel
theorem d_Sr_readList_67 : decode prog_8_method_9_code 67 = .ok (.ifCond .ne 5, 3) := by decide +kernel
theorem d_Sr_readList_70 : decode prog_8_method_9_code 70 = .ok (.iconst 0, 1) := by decide +kernel
theorem d_Sr_readList_71 : decode prog_8_method_9_code 71 = .ok (.ireturn, 1) := by decide +kernel
theorem d_Sr_readList_72 : decode prog_8_method_9_code 72 = .ok (.iinc 4 1, 3) := by decide +kernel
theorem d_Sr_readList_75 : decode prog_8_method_9_code 75 = .ok (.goto (-31), 3) := by decide +kernel
theorem d_Sr_readList_78 : decode prog_8_method_9_code 78 = .ok (.iconst 1, 1) := by decide +kernel
theorem d_Sr_readList_79 : decode prog_8_method_9_code 79 = .ok (.ireturn, 1) := by decide +kernel
theorem d_Sr_readSixteenth_0 : decode prog_8_method_10_code 0 = .ok (.aload_n 0, 1) := by decide +kernel
theorem d_Sr_readSixteenth_1 : decode prog_8_method_10_code 1 = .ok (.invokevirtual 92, 3) := by decide +kernel
theorem d_Sr_readSixteenth_4 : decode prog_8_method_10_code 4 = .ok (.istore_n 3, 1) := by decide +kernel
theorem d_Sr_readSixteenth_5 : decode prog_8_method_10_code 5 = .ok (.aload_n 0, 1) := by decide +kernel
theorem d_Sr_readSixteenth_6 : decode prog_8_method_10_code 6 = .ok (.bipush 16, 2) := by decide +kernel
theorem d_Sr_readSixteenth_8 : decode prog_8_method_10_code 8 = .ok (.invokevirtual 88, 3) := by decide +kernel
theorem d_Sr_readSixteenth_11 : decode prog_8_method_10_code 11 = .ok (.ifCond .eq 8, 3) := by decide +kernel
theorem d_Sr_readSixteenth_14 : decode prog_8_method_10_code 14 = .ok (.aload_n 0, 1) := by decide +kernel
theorem d_Sr_readSixteenth_15 : decode prog_8_method_10_code 15 = .ok (.invokevirtual 100, 3) := by decide +kernel
theorem d_Sr_readSixteenth_18 : decode prog_8_method_10_code 18 = .ok (.ireturn, 1) := by decide +kernel
theorem d_Sr_readSixteenth_19 : decode prog_8_method_10_code 19 = .ok (.aload_n 0, 1) := by decide +kernel
theorem d_Sr_readSixteenth_20 : decode prog_8_method_10_code 20 = .ok (.bipush 16, 2) := by decide +kernel
theorem d_Sr_readSixteenth_22 : decode prog_8_method_10_code 22 = .ok (.invokevirtual 103, 3) := by decide +kernel
theorem d_Sr_readSixteenth_25 : decode prog_8_method_10_code 25 = .ok (.istore 4, 2) := by decide +kernel
theorem d_Sr_readSixteenth_27 : decode prog_8_method_10_code 27 = .ok (.iload 4, 2) := by decide +kernel
theorem d_Sr_readSixteenth_29 : decode prog_8_method_10_code 29 = .ok (.ifCond .ne 10, 3) := by decide +kernel
theorem d_Sr_readSixteenth_32 : decode prog_8_method_10_code 32 = .ok (.aload_n 0, 1) := by decide +kernel
theorem d_Sr_readSixteenth_33 : decode prog_8_method_10_code 33 = .ok (.iconst 5, 1) := by decide +kernel
theorem d_Sr_readSixteenth_34 : decode prog_8_method_10_code 34 = .ok (.iload_n 3, 1) := by decide +kernel
theorem d_Sr_readSixteenth_35 : decode prog_8_method_10_code 35 = .ok (.invokevirtual 84, 3) := by decide +kernel
theorem d_Sr_readSixteenth_38 : decode prog_8_method_10_code 38 = .ok (.ireturn, 1) := by decide +kernel
theorem d_Sr_readSixteenth_39 : decode prog_8_method_10_code 39 = .ok (.iconst 0, 1) := by decide +kernel
theorem d_Sr_readSixteenth_40 : decode prog_8_method_10_code 40 = .ok (.istore 5, 2) := by decide +kernel
theorem d_Sr_readSixteenth_42 : decode prog_8_method_10_code 42 = .ok (.iload 5, 2) := by decide +kernel
theorem d_Sr_readSixteenth_44 : decode prog_8_method_10_code 44 = .ok (.bipush 16, 2) := by decide +kernel
theorem d_Sr_readSixteenth_46 : decode prog_8_method_10_code 46 = .ok (.if_icmp .ge 30, 3) := by decide +kernel
theorem d_Sr_readSixteenth_49 : decode prog_8_method_10_code 49 = .ok (.iload 4, 2) := by decide +kernel
theorem d_Sr_readSixteenth_51 : decode prog_8_method_10_code 51 = .ok (.iload 5, 2) := by decide +kernel
theorem d_Sr_readSixteenth_53 : decode prog_8_method_10_code 53 = .ok (.invokestatic 115, 3) := by decide +kernel
theorem d_Sr_readSixteenth_56 : decode prog_8_method_10_code 56 = .ok (.ifCond .eq 14, 3) := by decide +kernel
theorem d_Sr_readSixteenth_59 : decode prog_8_method_10_code 59 = .ok (.aload_n 1, 1) := by decide +kernel
theorem d_Sr_readSixteenth_60 : decode prog_8_method_10_code 60 = .ok (.bipush 16, 2) := by decide +kernel
theorem d_Sr_readSixteenth_62 : decode prog_8_method_10_code 62 = .ok (.iload_n 2, 1) := by decide +kernel
theorem d_Sr_readSixteenth_63 : decode prog_8_method_10_code 63 = .ok (.imul, 1) := by decide +kernel
theorem d_Sr_readSixteenth_64 : decode prog_8_method_10_code 64 = .ok (.iload 5, 2) := by decide +kernel
theorem d_Sr_readSixteenth_66 : decode prog_8_method_10_code 66 = .ok (.iadd, 1) := by decide +kernel
theorem d_Sr_readSixteenth_67 : decode prog_8_method_10_code 67 = .ok (.invokevirtual 122, 3) := by decide +kernel
theorem d_Sr_readSixteenth_70 : decode prog_8_method_10_code 70 = .ok (.iinc 5 1, 3) := by decide +kernel
theorem d_Sr_readSixteenth_73 : decode prog_8_method_10_code 73 = .ok (.goto (-31), 3) := by decide +kernel
theorem d_Sr_readSixteenth_76 : decode prog_8_method_10_code 76 = .ok (.iconst 1, 1) := by decide +kernel
theorem d_Sr_readSixteenth_77 : decode prog_8_method_10_code 77 = .ok (.ireturn, 1) := by decide +kernel
theorem d_Sr_isMarked_0 : decode prog_8_method_11_code 0 = .ok (.iload_n 0, 1) := by decide +kernel
theorem d_Sr_isMarked_1 : decode prog_8_method_11_code 1 = .ok (.bipush 15, 2) := by decide +kernel
theorem d_Sr_isMarked_3 : decode prog_8_method_11_code 3 = .ok (.iload_n 1, 1) := by decide +kernel
theorem d_Sr_isMarked_4 : decode prog_8_method_11_code 4 = .ok (.isub, 1) := by decide +kernel
theorem d_Sr_isMarked_5 : decode prog_8_method_11_code 5 = .ok (.ishr, 1) := by decide +kernel
theorem d_Sr_isMarked_6 : decode prog_8_method_11_code 6 = .ok (.iconst 1, 1) := by decide +kernel
theorem d_Sr_isMarked_7 : decode prog_8_method_11_code 7 = .ok (.iand, 1) := by decide +kernel
theorem d_Sr_isMarked_8 : decode prog_8_method_11_code 8 = .ok (.iconst 1, 1) := by decide +kernel
theorem d_Sr_isMarked_9 : decode prog_8_method_11_code 9 = .ok (.if_icmp .ne 7, 3) := by decide +kernel
theorem d_Sr_isMarked_12 : decode prog_8_method_11_code 12 = .ok (.iconst 1, 1) := by decide +kernel
theorem d_Sr_isMarked_13 : decode prog_8_method_11_code 13 = .ok (.goto 4, 3) := by decide +kernel
theorem d_Sr_isMarked_16 : decode prog_8_method_11_code 16 = .ok (.iconst 0, 1) := by decide +kernel
theorem d_Sr_isMarked_17 : decode prog_8_method_11_code 17 = .ok (.ireturn, 1) := by decide +kernel
theorem d_Sr_readLengths_0 : decode prog_8_method_12_code 0 = .ok (.aload_n 0, 1) := by decide +kernel
theorem d_Sr_readLengths_1 : decode prog_8_method_12_code 1 = .ok (.invokevirtual 92, 3) := by decide +kernel
theorem d_Sr_readLengths_4 : decode prog_8_method_12_code 4 = .ok (.istore_n 3, 1) := by decide +kernel
theorem d_Sr_readLengths_5 : decode prog_8_method_12_code 5 = .ok (.aload_n 0, 1) := by decide +kernel
theorem d_Sr_readLengths_6 : decode prog_8_method_12_code 6 = .ok (.iconst 4, 1) := by decide +kernel
theorem d_Sr_readLengths_7 : decode prog_8_method_12_code 7 = .ok (.invokevirtual 88, 3) := by decide +kernel
theorem d_Sr_readLengths_10 : decode prog_8_method_12_code 10 = .ok (.ifCond .eq 8, 3) := by decide +kernel
theorem d_Sr_readLengths_13 : decode prog_8_method_12_code 13 = .ok (.aload_n 0, 1) := by decide +kernel
theorem d_Sr_readLengths_14 : decode prog_8_method_12_code 14 = .ok (.invokevirtual 100, 3) := by decide +kernel
theorem d_Sr_readLengths_17 : decode prog_8_method_12_code 17 = .ok (.ireturn, 1) := by decide +kernel
theorem d_Sr_readLengths_18 : decode prog_8_method_12_code 18 = .ok (.aload_n 0, 1) := by decide +kernel
theorem d_Sr_readLengths_19 : decode prog_8_method_12_code 19 = .ok (.aload_n 0, 1) := by decide +kernel
theorem d_Sr_readLengths_20 : decode prog_8_method_12_code 20 = .ok (.iconst 4, 1) := by decide +kernel
theorem d_Sr_readLengths_21 : decode prog_8_method_12_code 21 = .ok (.invokevirtual 103, 3) := by decide +kernel
theorem d_Sr_readLengths_24 : decode prog_8_method_12_code 24 = .ok (.putfield 125, 3) := by decide +kernel
theorem d_Sr_readLengths_27 : decode prog_8_method_12_code 27 = .ok (.aload_n 0, 1) := by decide +kernel
theorem d_Sr_readLengths_28 : decode prog_8_method_12_code 28 = .ok (.getfield 125, 3) := by decide +kernel
theorem d_Sr_readLengths_31 : decode prog_8_method_12_code 31 = .ok (.invokestatic 128, 3) := by decide +kernel
theorem d_Sr_readLengths_34 : decode prog_8_method_12_code 34 = .ok (.ifCond .eq 11, 3) := by decide +kernel
theorem d_Sr_readLengths_37 : decode prog_8_method_12_code 37 = .ok (.aload_n 0, 1) := by decide +kernel
theorem d_Sr_readLengths_38 : decode prog_8_method_12_code 38 = .ok (.bipush 6, 2) := by decide +kernel
theorem d_Sr_readLengths_40 : decode prog_8_method_12_code 40 = .ok (.iload_n 3, 1) := by decide +kernel
theorem d_Sr_readLengths_41 : decode prog_8_method_12_code 41 = .ok (.invokevirtual 84, 3) := by decide +kernel
theorem d_Sr_readLengths_44 : decode prog_8_method_12_code 44 = .ok (.ireturn, 1) := by decide +kernel
theorem d_Sr_readLengths_45 : decode prog_8_method_12_code 45 = .ok (.aload_n 1, 1) := by decide +kernel
theorem d_Sr_readLengths_46 : decode prog_8_method_12_code 46 = .ok (.iload_n 2, 1) := by decide +kernel
theorem d_Sr_readLengths_47 : decode prog_8_method_12_code 47 = .ok (.invokevirtual 131, 3) := by decide +kernel
theorem d_Sr_readLengths_50 : decode prog_8_method_12_code 50 = .ok (.iconst 0, 1) := by decide +kernel
theorem d_Sr_readLengths_51 : decode prog_8_method_12_code 51 = .ok (.istore 4, 2) := by decide +kernel
theorem d_Sr_readLengths_53 : decode prog_8_method_12_code 53 = .ok (.iload 4, 2) := by decide +kernel
theorem d_Sr_readLengths_55 : decode prog_8_method_12_code 55 = .ok (.iload_n 2, 1) := by decide +kernel
theorem d_Sr_readLengths_56 : decode prog_8_method_12_code 56 = .ok (.if_icmp .ge 21, 3) := by decide +kernel
theorem d_Sr_readLengths_59 : decode prog_8_method_12_code 59 = .ok (.aload_n 0, 1) := by decide +kernel
theorem d_Sr_readLengths_60 : decode prog_8_method_12_code 60 = .ok (.aload_n 1, 1) := by decide +kernel
theorem d_Sr_readLengths_61 : decode prog_8_method_12_code 61 = .ok (.iload 4, 2) := by decide +kernel
theorem d_Sr_readLengths_63 : decode prog_8_method_12_code 63 = .ok (.invokevirtual 136, 3) := by decide +kernel
theorem d_Sr_readLengths_66 : decode prog_8_method_12_code 66 = .ok (.ifCond .ne 5, 3) := by decide +kernel
theorem d_Sr_readLengths_69 : decode prog_8_method_12_code 69 = .ok (.iconst 0, 1) := by decide +kernel
theorem d_Sr_readLengths_70 : decode prog_8_method_12_code 70 = .ok (.ireturn, 1) := by decide +kernel
theorem d_Sr_readLengths_71 : decode prog_8_method_12_code 71 = .ok (.iinc 4 1, 3) := by decide +kernel
theorem d_Sr_readLengths_74 : decode prog_8_method_12_code 74 = .ok (.goto (-21), 3) := by decide +kernel
theorem d_Sr_readLengths_77 : decode prog_8_method_12_code 77 = .ok (.aload_n 1, 1) := by decide +kernel
theorem d_Sr_readLengths_78 : decode prog_8_method_12_code 78 = .ok (.invokevirtual 139, 3) := by decide +kernel
theorem d_Sr_readLengths_81 : decode prog_8_method_12_code 81 = .ok (.aload_n 1, 1) := by decide +kernel
theorem d_Sr_readLengths_82 : decode prog_8_method_12_code 82 = .ok (.invokevirtual 142, 3) := by decide +kernel
theorem d_Sr_readLengths_85 : decode prog_8_method_12_code 85 = .ok (.ifCond .ne 13, 3) := by decide +kernel
theorem d_Sr_readLengths_88 : decode prog_8_method_12_code 88 = .ok (.aload_n 0, 1) := by decide +kernel
theorem d_Sr_readLengths_89 : decode prog_8_method_12_code 89 = .ok (.bipush 7, 2) := by decide +kernel
theorem d_Sr_readLengths_91 : decode prog_8_method_12_code 91 = .ok (.iload_n 3, 1) := by decide +kernel
theorem d_Sr_readLengths_92 : decode prog_8_method_12_code 92 = .ok (.invokevirtual 84, 3) := by decide +kernel
theorem d_Sr_readLengths_95 : decode prog_8_method_12_code 95 = .ok (.ifCond .eq 7, 3) := by decide +kernel
theorem d_Sr_readLengths_98 : decode prog_8_method_12_code 98 = .ok (.iconst 1, 1) := by decide +kernel
theorem d_Sr_readLengths_99 : decode prog_8_method_12_code 99 = .ok (.goto 4, 3) := by decide +kernel
theorem d_Sr_readLengths_102 : decode prog_8_method_12_code 102 = .ok (.iconst 0, 1) := by decide +kernel
theorem d_Sr_readLengths_103 : decode prog_8_method_12_code 103 = .ok (.ireturn, 1) := by decide +kernel
theorem d_Sr_readLength_0 : decode prog_8_method_13_code 0 = .ok (.aload_n 0, 1) := by decide +kernel
theorem d_Sr_readLength_1 : decode prog_8_method_13_code 1 = .ok (.invokevirtual 92, 3) := by decide +kernel
theorem d_Sr_readLength_4 : decode prog_8_method_13_code 4 = .ok (.istore_n 3, 1) := by decide +kernel
theorem d_Sr_readLength_5 : decode prog_8_method_13_code 5 = .ok (.iconst 0, 1) := by decide +kernel
theorem d_Sr_readLength_6 : decode prog_8_method_13_code 6 = .ok (.istore 4, 2) := by decide +kernel
theorem d_Sr_readLength_8 : decode prog_8_method_13_code 8 = .ok (.iload 4, 2) := by decide +kernel
theorem d_Sr_readLength_10 : decode prog_8_method_13_code 10 = .ok (.sipush 24000, 3) := by decide +kernel
theorem d_Sr_readLength_13 : decode prog_8_method_13_code 13 = .ok (.if_icmp .ge 87, 3) := by decide +kernel
theorem d_Sr_readLength_16 : decode prog_8_method_13_code 16 = .ok (.aload_n 0, 1) := by decide +kernel
theorem d_Sr_readLength_17 : decode prog_8_method_13_code 17 = .ok (.iconst 1, 1) := by decide +kernel
theorem d_Sr_readLength_18 : decode prog_8_method_13_code 18 = .ok (.invokevirtual 88, 3) := by decide +kernel
theorem d_Sr_readLength_21 : decode prog_8_method_13_code 21 = .ok (.ifCond .ne 79, 3) := by decide +kernel
theorem d_Sr_readLength_24 : decode prog_8_method_13_code 24 = .ok (.aload_n 0, 1) := by decide +kernel
theorem d_Sr_readLength_25 : decode prog_8_method_13_code 25 = .ok (.iconst 1, 1) := by decide +kernel
theorem d_Sr_readLength_26 : decode prog_8_method_13_code 26 = .ok (.invokevirtual 103, 3) := by decide +kernel
theorem d_Sr_readLength_29 : decode prog_8_method_13_code 29 = .ok (.ifCond .ne 14, 3) := by decide +kernel
theorem d_Sr_readLength_32 : decode prog_8_method_13_code 32 = .ok (.aload_n 1, 1) := by decide +kernel
theorem d_Sr_readLength_33 : decode prog_8_method_13_code 33 = .ok (.iload_n 2, 1) := by decide +kernel
theorem d_Sr_readLength_34 : decode prog_8_method_13_code 34 = .ok (.aload_n 0, 1) := by decide +kernel
theorem d_Sr_readLength_35 : decode prog_8_method_13_code 35 = .ok (.getfield 125, 3) := by decide +kernel
theorem d_Sr_readLength_38 : decode prog_8_method_13_code 38 = .ok (.invokevirtual 145, 3) := by decide +kernel
theorem d_Sr_readLength_41 : decode prog_8_method_13_code 41 = .ok (.iconst 1, 1) := by decide +kernel
theorem d_Sr_readLength_42 : decode prog_8_method_13_code 42 = .ok (.ireturn, 1) := by decide +kernel
theorem d_Sr_readLength_43 : decode prog_8_method_13_code 43 = .ok (.aload_n 0, 1) := by decide +kernel
theorem d_Sr_readLength_44 : decode prog_8_method_13_code 44 = .ok (.iconst 1, 1) := by decide +kernel
theorem d_Sr_readLength_45 : decode prog_8_method_13_code 45 = .ok (.invokevirtual 88, 3) := by decide +kernel
theorem d_Sr_readLength_48 : decode prog_8_method_13_code 48 = .ok (.ifCond .eq 6, 3) := by decide +kernel
theorem d_Sr_readLength_51 : decode prog_8_method_13_code 51 = .ok (.goto 49, 3) := by decide +kernel
theorem d_Sr_readLength_54 : decode prog_8_method_13_code 54 = .ok (.aload_n 0, 1) := by decide +kernel
theorem d_Sr_readLength_55 : decode prog_8_method_13_code 55 = .ok (.dup, 1) := by decide +kernel
theorem d_Sr_readLength_56 : decode prog_8_method_13_code 56 = .ok (.getfield 125, 3) := by decide +kernel
theorem d_Sr_readLength_59 : decode prog_8_method_13_code 59 = .ok (.aload_n 0, 1) := by decide +kernel
theorem d_Sr_readLength_60 : decode prog_8_method_13_code 60 = .ok (.iconst 1, 1) := by decide +kernel
theorem d_Sr_readLength_61 : decode prog_8_method_13_code 61 = .ok (.invokevirtual 103, 3) := by decide +kernel
theorem d_Sr_readLength_64 : decode prog_8_method_13_code 64 = .ok (.ifCond .ne 7, 3) := by decide +kernel
theorem d_Sr_readLength_67 : decode prog_8_method_13_code 67 = .ok (.iconst 1, 1) := by decide +kernel
theorem d_Sr_readLength_68 : decode prog_8_method_13_code 68 = .ok (.goto 4, 3) := by decide +kernel
theorem d_Sr_readLength_71 : decode prog_8_method_13_code 71 = .ok (.iconst (-1), 1) := by decide +kernel
theorem d_Sr_readLength_72 : decode prog_8_method_13_code 72 = .ok (.iadd, 1) := by decide +kernel
theorem d_Sr_readLength_73 : decode prog_8_method_13_code 73 = .ok (.putfield 125, 3) := by decide +kernel
theorem d_Sr_readLength_76 : decode prog_8_method_13_code 76 = .ok (.aload_n 0, 1) := by decide +kernel
theorem d_Sr_readLength_77 : decode prog_8_method_13_code 77 = .ok (.getfield 125, 3) := by decide +kernel
theorem d_Sr_readLength_80 : decode prog_8_method_13_code 80 = .ok (.invokestatic 128, 3) := by decide +kernel
theorem d_Sr_readLength_83 : decode prog_8_method_13_code 83 = .ok (.ifCond .eq 11, 3) := by decide +kernel
theorem d_Sr_readLength_86 : decode prog_8_method_13_code 86 = .ok (.aload_n 0, 1) := by decide +kernel
theorem d_Sr_readLength_87 : decode prog_8_method_13_code 87 = .ok (.bipush 6, 2) := by decide +kernel
theorem d_Sr_readLength_89 : decode prog_8_method_13_code 89 = .ok (.iload_n 3, 1) := by decide +kernel
theorem d_Sr_readLength_90 : decode prog_8_method_13_code 90 = .ok (.invokevirtual 84, 3) := by decide +kernel
theorem d_Sr_readLength_93 : decode prog_8_method_13_code 93 = .ok (.ireturn, 1) := by decide +kernel
theorem d_Sr_readLength_94 : decode prog_8_method_13_code 94 = .ok (.iinc 4 1, 3) := by decide +kernel
theorem d_Sr_readLength_97 : decode prog_8_method_13_code 97 = .ok (.goto (-89), 3) := by decide +kernel
theorem d_Sr_readLength_100 : decode prog_8_method_13_code 100 = .ok (.aload_n 0, 1) := by decide +kernel
theorem d_Sr_readLength_101 : decode prog_8_method_13_code 101 = .ok (.invokevirtual 100, 3) := by decide +kernel
theorem d_Sr_readLength_104 : decode prog_8_method_13_code 104 = .ok (.ireturn, 1) := by decide +kernel
theorem d_Sr_isNoLength_0 : decode prog_8_method_14_code 0 = .ok (.iload_n 0, 1) := by decide +kernel
theorem d_Sr_isNoLength_1 : decode prog_8_method_14_code 1 = .ok (.iconst 1, 1) := by decide +kernel
theorem d_Sr_isNoLength_2 : decode prog_8_method_14_code 2 = .ok (.if_icmp .lt 9, 3) := by decide +kernel
theorem d_Sr_isNoLength_5 : decode prog_8_method_14_code 5 = .ok (.iload_n 0, 1) := by decide +kernel
theorem d_Sr_isNoLength_6 : decode prog_8_method_14_code 6 = .ok (.bipush 12, 2) := by decide +kernel
theorem d_Sr_isNoLength_8 : decode prog_8_method_14_code 8 = .ok (.if_icmp .le 7, 3) := by decide +kernel
theorem d_Sr_isNoLength_11 : decode prog_8_method_14_code 11 = .ok (.iconst 1, 1) := by decide +kernel
theorem d_Sr_isNoLength_12 : decode prog_8_method_14_code 12 = .ok (.goto 4, 3) := by decide +kernel
theorem d_Sr_isNoLength_15 : decode prog_8_method_14_code 15 = .ok (.iconst 0, 1) := by decide +kernel
theorem d_Sr_isNoLength_16 : decode prog_8_method_14_code 16 = .ok (.ireturn, 1) := by decide +kernel
theorem d_Sr_readSymbols_0 : decode prog_8_method_15_code 0 = .ok (.aload_n 2, 1) := by decide +kernel
theorem d_Sr_readSymbols_1 : decode prog_8_method_15_code 1 = .ok (.getfield 63, 3) := by decide +kernel
theorem d_Sr_readSymbols_4 : decode prog_8_method_15_code 4 = .ok (.iconst 1, 1) := by decide +kernel
theorem d_Sr_readSymbols_5 : decode prog_8_method_15_code 5 = .ok (.iadd, 1) := by decide +kernel
theorem d_Sr_readSymbols_6 : decode prog_8_method_15_code 6 = .ok (.istore_n 3, 1) := by decide +kernel
theorem d_Sr_readSymbols_7 : decode prog_8_method_15_code 7 = .ok (.iconst 1, 1) := by decide +kernel
theorem d_Sr_readSymbols_8 : decode prog_8_method_15_code 8 = .ok (.istore 4, 2) := by decide +kernel
theorem d_Sr_readSymbols_10 : decode prog_8_method_15_code 10 = .ok (.iconst 0, 1) := by decide +kernel
theorem d_Sr_readSymbols_11 : decode prog_8_method_15_code 11 = .ok (.istore 5, 2) := by decide +kernel
theorem d_Sr_readSymbols_13 : decode prog_8_method_15_code 13 = .ok (.iload 5, 2) := by decide +kernel
theorem d_Sr_readSymbols_15 : decode prog_8_method_15_code 15 = .ok (.aload_n 0, 1) := by decide +kernel
theorem d_Sr_readSymbols_16 : decode prog_8_method_15_code 16 = .ok (.getfield 56, 3) := by decide +kernel
theorem d_Sr_readSymbols_19 : decode prog_8_method_15_code 19 = .ok (.if_icmp .gt 172, 3) := by decide +kernel
theorem d_Sr_readSymbols_22 : decode prog_8_method_15_code 22 = .ok (.aload_n 0, 1) := by decide +kernel
theorem d_Sr_readSymbols_23 : decode prog_8_method_15_code 23 = .ok (.invokevirtual 92, 3) := by decide +kernel
theorem d_Sr_readSymbols_26 : decode prog_8_method_15_code 26 = .ok (.istore 6, 2) := by decide +kernel
theorem d_Sr_readSymbols_28 : decode prog_8_method_15_code 28 = .ok (.aload_n 0, 1) := by decide +kernel
theorem d_Sr_readSymbols_29 : decode prog_8_method_15_code 29 = .ok (.aload_n 1, 1) := by decide +kernel
theorem d_Sr_readSymbols_30 : decode prog_8_method_15_code 30 = .ok (.invokevirtual 149, 3) := by decide +kernel
theorem d_Sr_readSymbols_33 : decode prog_8_method_15_code 33 = .ok (.istore 7, 2) := by decide +kernel
theorem d_Sr_readSymbols_35 : decode prog_8_method_15_code 35 = .ok (.iload 7, 2) := by decide +kernel
theorem d_Sr_readSymbols_37 : decode prog_8_method_15_code 37 = .ok (.ifCond .ge 8, 3) := by decide +kernel
theorem d_Sr_readSymbols_40 : decode prog_8_method_15_code 40 = .ok (.aload_n 0, 1) := by decide +kernel
theorem d_Sr_readSymbols_41 : decode prog_8_method_15_code 41 = .ok (.invokevirtual 100, 3) := by decide +kernel
theorem d_Sr_readSymbols_44 : decode prog_8_method_15_code 44 = .ok (.ireturn, 1) := by decide +kernel
theorem d_Sr_readSymbols_45 : decode prog_8_method_15_code 45 = .ok (.iload 7, 2) := by decide +kernel
theorem d_Sr_readSymbols_47 : decode prog_8_method_15_code 47 = .ok (.iload_n 3, 1) := by decide +kernel
theorem d_Sr_readSymbols_48 : decode prog_8_method_15_code 48 = .ok (.if_icmp .ne 34, 3) := by decide +kernel
theorem d_Sr_readSymbols_51 : decode prog_8_method_15_code 51 = .ok (.aload_n 0, 1) := by decide +kernel
theorem d_Sr_readSymbols_52 : decode prog_8_method_15_code 52 = .ok (.getfield 20, 3) := by decide +kernel
theorem d_Sr_readSymbols_55 : decode prog_8_method_15_code 55 = .ok (.getfield 83, 3) := by decide +kernel
theorem d_Sr_readSymbols_58 : decode prog_8_method_15_code 58 = .ok (.aload_n 0, 1) := by decide +kernel
theorem d_Sr_readSymbols_59 : decode prog_8_method_15_code 59 = .ok (.getfield 56, 3) := by decide +kernel
theorem d_Sr_readSymbols_62 : decode prog_8_method_15_code 62 = .ok (.if_icmp .eq 14, 3) := by decide +kernel
theorem d_Sr_readSymbols_65 : decode prog_8_method_15_code 65 = .ok (.aload_n 0, 1) := by decide +kernel
theorem d_Sr_readSymbols_66 : decode prog_8_method_15_code 66 = .ok (.bipush 8, 2) := by decide +kernel
theorem d_Sr_readSymbols_68 : decode prog_8_method_15_code 68 = .ok (.iload 6, 2) := by decide +kernel
theorem d_Sr_readSymbols_70 : decode prog_8_method_15_code 70 = .ok (.invokevirtual 84, 3) := by decide +kernel
theorem d_Sr_readSymbols_73 : decode prog_8_method_15_code 73 = .ok (.ifCond .eq 7, 3) := by decide +kernel
theorem d_Sr_readSymbols_76 : decode prog_8_method_15_code 76 = .ok (.iconst 1, 1) := by decide +kernel
theorem d_Sr_readSymbols_77 : decode prog_8_method_15_code 77 = .ok (.goto 4, 3) := by decide +kernel
theorem d_Sr_readSymbols_80 : decode prog_8_method_15_code 80 = .ok (.iconst 0, 1) := by decide +kernel
theorem d_Sr_readSymbols_81 : decode prog_8_method_15_code 81 = .ok (.ireturn, 1) := by decide +kernel
theorem d_Sr_readSymbols_82 : decode prog_8_method_15_code 82 = .ok (.iload 7, 2) := by decide +kernel
theorem d_Sr_readSymbols_84 : decode prog_8_method_15_code 84 = .ok (.iconst 2, 1) := by decide +kernel
theorem d_Sr_readSymbols_85 : decode prog_8_method_15_code 85 = .ok (.if_icmp .ge 7, 3) := by decide +kernel
theorem d_Sr_readSymbols_88 : decode prog_8_method_15_code 88 = .ok (.iconst 1, 1) := by decide +kernel
theorem d_Sr_readSymbols_89 : decode prog_8_method_15_code 89 = .ok (.goto 4, 3) := by decide +kernel
theorem d_Sr_readSymbols_92 : decode prog_8_method_15_code 92 = .ok (.iconst 0, 1) := by decide +kernel
theorem d_Sr_readSymbols_93 : decode prog_8_method_15_code 93 = .ok (.istore 8, 2) := by decide +kernel
theorem d_Sr_readSymbols_95 : decode prog_8_method_15_code 95 = .ok (.iload 8, 2) := by decide +kernel
theorem d_Sr_readSymbols_97 : decode prog_8_method_15_code 97 = .ok (.ifCond .eq 13, 3) := by decide +kernel
theorem d_Sr_readSymbols_100 : decode prog_8_method_15_code 100 = .ok (.iload 7, 2) := by decide +kernel
theorem d_Sr_readSymbols_102 : decode prog_8_method_15_code 102 = .ok (.iconst 1, 1) := by decide +kernel
theorem d_Sr_readSymbols_103 : decode prog_8_method_15_code 103 = .ok (.iadd, 1) := by decide +kernel
theorem d_Sr_readSymbols_104 : decode prog_8_method_15_code 104 = .ok (.iload 4, 2) := by decide +kernel
theorem d_Sr_readSymbols_106 : decode prog_8_method_15_code 106 = .ok (.imul, 1) := by decide +kernel
theorem d_Sr_readSymbols_107 : decode prog_8_method_15_code 107 = .ok (.goto 4, 3) := by decide +kernel
theorem d_Sr_readSymbols_110 : decode prog_8_method_15_code 110 = .ok (.iconst 1, 1) := by decide +kernel
theorem d_Sr_readSymbols_111 : decode prog_8_method_15_code 111 = .ok (.istore 9, 2) := by decide +kernel
theorem d_Sr_readSymbols_113 : decode prog_8_method_15_code 113 = .ok (.iload 9, 2) := by decide +kernel
theorem d_Sr_readSymbols_115 : decode prog_8_method_15_code 115 = .ok (.aload_n 0, 1) := by decide +kernel
theorem d_Sr_readSymbols_116 : decode prog_8_method_15_code 116 = .ok (.getfield 56, 3) := by decide +kernel
theorem d_Sr_readSymbols_119 : decode prog_8_method_15_code 119 = .ok (.aload_n 0, 1) := by decide +kernel
theorem d_Sr_readSymbols_120 : decode prog_8_method_15_code 120 = .ok (.getfield 20, 3) := by decide +kernel
theorem d_Sr_readSymbols_123 : decode prog_8_method_15_code 123 = .ok (.getfield 83, 3) := by decide +kernel
theorem d_Sr_readSymbols_126 : decode prog_8_method_15_code 126 = .ok (.isub, 1) := by decide +kernel
theorem d_Sr_readSymbols_127 : decode prog_8_method_15_code 127 = .ok (.if_icmp .le 12, 3) := by decide +kernel
theorem d_Sr_readSymbols_130 : decode prog_8_method_15_code 130 = .ok (.aload_n 0, 1) := by decide +kernel
theorem d_Sr_readSymbols_131 : decode prog_8_method_15_code 131 = .ok (.bipush 8, 2) := by decide +kernel
theorem d_Sr_readSymbols_133 : decode prog_8_method_15_code 133 = .ok (.iload 6, 2) := by decide +kernel
theorem d_Sr_readSymbols_135 : decode prog_8_method_15_code 135 = .ok (.invokevirtual 84, 3) := by decide +kernel
theorem d_Sr_readSymbols_138 : decode prog_8_method_15_code 138 = .ok (.ireturn, 1) := by decide +kernel
theorem d_Sr_readSymbols_139 : decode prog_8_method_15_code 139 = .ok (.iload 8, 2) := by decide +kernel
theorem d_Sr_readSymbols_141 : decode prog_8_method_15_code 141 = .ok (.ifCond .eq 10, 3) := by decide +kernel
theorem d_Sr_readSymbols_144 : decode prog_8_method_15_code 144 = .ok (.iconst 2, 1) := by decide +kernel
theorem d_Sr_readSymbols_145 : decode prog_8_method_15_code 145 = .ok (.iload 4, 2) := by decide +kernel
theorem d_Sr_readSymbols_147 : decode prog_8_method_15_code 147 = .ok (.imul, 1) := by decide +kernel
theorem d_Sr_readSymbols_148 : decode prog_8_method_15_code 148 = .ok (.goto 4, 3) := by decide +kernel
theorem d_Sr_readSymbols_151 : decode prog_8_method_15_code 151 = .ok (.iconst 1, 1) := by decide +kernel
theorem d_Sr_readSymbols_152 : decode prog_8_method_15_code 152 = .ok (.istore 4, 2) := by decide +kernel
theorem d_Sr_readSymbols_154 : decode prog_8_method_15_code 154 = .ok (.aload_n 2, 1) := by decide +kernel
theorem d_Sr_readSymbols_155 : decode prog_8_method_15_code 155 = .ok (.iload 8, 2) := by decide +kernel
theorem d_Sr_readSymbols_157 : decode prog_8_method_15_code 157 = .ok (.ifCond .eq 7, 3) := by decide +kernel
theorem d_Sr_readSymbols_160 : decode prog_8_method_15_code 160 = .ok (.iconst 0, 1) := by decide +kernel
theorem d_Sr_readSymbols_161 : decode prog_8_method_15_code 161 = .ok (.goto 7, 3) := by decide +kernel
theorem d_Sr_readSymbols_164 : decode prog_8_method_15_code 164 = .ok (.iload 7, 2) := by decide +kernel
theorem d_Sr_readSymbols_166 : decode prog_8_method_15_code 166 = .ok (.iconst 1, 1) := by decide +kernel
theorem d_Sr_readSymbols_167 : decode prog_8_method_15_code 167 = .ok (.isub, 1) := by decide +kernel
theorem d_Sr_readSymbols_168 : decode prog_8_method_15_code 168 = .ok (.invokevirtual 153, 3) := by decide +kernel
theorem d_Sr_readSymbols_171 : decode prog_8_method_15_code 171 = .ok (.aload_n 0, 1) := by decide +kernel
theorem d_Sr_readSymbols_172 : decode prog_8_method_15_code 172 = .ok (.getfield 20, 3) := by decide +kernel
theorem d_Sr_readSymbols_175 : decode prog_8_method_15_code 175 = .ok (.iload 9, 2) := by decide +kernel
theorem d_Sr_readSymbols_177 : decode prog_8_method_15_code 177 = .ok (.aload_n 2, 1) := by decide +kernel
theorem d_Sr_readSymbols_178 : decode prog_8_method_15_code 178 = .ok (.iconst 0, 1) := by decide +kernel
theorem d_Sr_readSymbols_179 : decode prog_8_method_15_code 179 = .ok (.invokevirtual 156, 3) := by decide +kernel
theorem d_Sr_readSymbols_182 : decode prog_8_method_15_code 182 = .ok (.invokevirtual 157, 3) := by decide +kernel
theorem d_Sr_readSymbols_185 : decode prog_8_method_15_code 185 = .ok (.iinc 5 1, 3) := by decide +kernel
theorem d_Sr_readSymbols_188 : decode prog_8_method_15_code 188 = .ok (.goto (-175), 3) := by decide +kernel
theorem d_Sr_readSymbols_191 : decode prog_8_method_15_code 191 = .ok (.aload_n 0, 1) := by decide +kernel
theorem d_Sr_readSymbols_192 : decode prog_8_method_15_code 192 = .ok (.invokevirtual 100, 3) := by decide +kernel
theorem d_Sr_readSymbols_195 : decode prog_8_method_15_code 195 = .ok (.ireturn, 1) := by decide +kernel
theorem d_Sr_nextSymbol_0 : decode prog_8_method_16_code 0 = .ok (.iconst 0, 1) := by decide +kernel
theorem d_Sr_nextSymbol_1 : decode prog_8_method_16_code 1 = .ok (.istore_n 2, 1) := by decide +kernel
theorem d_Sr_nextSymbol_2 : decode prog_8_method_16_code 2 = .ok (.iconst 0, 1) := by decide +kernel
theorem d_Sr_nextSymbol_3 : decode prog_8_method_16_code 3 = .ok (.istore_n 3, 1) := by decide +kernel
theorem d_Sr_nextSymbol_4 : decode prog_8_method_16_code 4 = .ok (.iconst 0, 1) := by decide +kernel
theorem d_Sr_nextSymbol_5 : decode prog_8_method_16_code 5 = .ok (.istore 4, 2) := by decide +kernel
theorem d_Sr_nextSymbol_7 : decode prog_8_method_16_code 7 = .ok (.iconst 1, 1) := by decide +kernel
theorem d_Sr_nextSymbol_8 : decode prog_8_method_16_code 8 = .ok (.istore 5, 2) := by decide +kernel
theorem d_Sr_nextSymbol_10 : decode prog_8_method_16_code 10 = .ok (.iload 5, 2) := by decide +kernel
theorem d_Sr_nextSymbol_12 : decode prog_8_method_16_code 12 = .ok (.bipush 12, 2) := by decide +kernel
theorem d_Sr_nextSymbol_14 : decode prog_8_method_16_code 14 = .ok (.if_icmp .gt 71, 3) := by decide +kernel
theorem d_Sr_nextSymbol_17 : decode prog_8_method_16_code 17 = .ok (.aload_n 0, 1) := by decide +kernel
theorem d_Sr_nextSymbol_18 : decode prog_8_method_16_code 18 = .ok (.iconst 1, 1) := by decide +kernel
theorem d_Sr_nextSymbol_19 : decode prog_8_method_16_code 19 = .ok (.invokevirtual 88, 3) := by decide +kernel
theorem d_Sr_nextSymbol_22 : decode prog_8_method_16_code 22 = .ok (.ifCond .ne 63, 3) := by decide +kernel
theorem d_Sr_nextSymbol_25 : decode prog_8_method_16_code 25 = .ok (.iload_n 2, 1) := by decide +kernel
theorem d_Sr_nextSymbol_26 : decode prog_8_method_16_code 26 = .ok (.iconst 1, 1) := by decide +kernel
theorem d_Sr_nextSymbol_27 : decode prog_8_method_16_code 27 = .ok (.ishl, 1) := by decide +kernel
theorem d_Sr_nextSymbol_28 : decode prog_8_method_16_code 28 = .ok (.aload_n 0, 1) := by decide +kernel
theorem d_Sr_nextSymbol_29 : decode prog_8_method_16_code 29 = .ok (.iconst 1, 1) := by decide +kernel
theorem d_Sr_nextSymbol_30 : decode prog_8_method_16_code 30 = .ok (.invokevirtual 103, 3) := by decide +kernel
theorem d_Sr_nextSymbol_33 : decode prog_8_method_16_code 33 = .ok (.ior, 1) := by decide +kernel
theorem d_Sr_nextSymbol_34 : decode prog_8_method_16_code 34 = .ok (.istore_n 2, 1) := by decide +kernel
theorem d_Sr_nextSymbol_35 : decode prog_8_method_16_code 35 = .ok (.iload_n 3, 1) := by decide +kernel
theorem d_Sr_nextSymbol_36 : decode prog_8_method_16_code 36 = .ok (.iconst 1, 1) := by decide +kernel
theorem d_Sr_nextSymbol_37 : decode prog_8_method_16_code 37 = .ok (.ishl, 1) := by decide +kernel
theorem d_Sr_nextSymbol_38 : decode prog_8_method_16_code 38 = .ok (.istore_n 3, 1) := by decide +kernel
theorem d_Sr_nextSymbol_39 : decode prog_8_method_16_code 39 = .ok (.aload_n 1, 1) := by decide +kernel
theorem d_Sr_nextSymbol_40 : decode prog_8_method_16_code 40 = .ok (.getfield 160, 3) := by decide +kernel
theorem d_Sr_nextSymbol_43 : decode prog_8_method_16_code 43 = .ok (.iload 5, 2) := by decide +kernel
theorem d_Sr_nextSymbol_45 : decode prog_8_method_16_code 45 = .ok (.iaload, 1) := by decide +kernel
theorem d_Sr_nextSymbol_46 : decode prog_8_method_16_code 46 = .ok (.istore 6, 2) := by decide +kernel
theorem d_Sr_nextSymbol_48 : decode prog_8_method_16_code 48 = .ok (.iload_n 2, 1) := by decide +kernel
theorem d_Sr_nextSymbol_49 : decode prog_8_method_16_code 49 = .ok (.iload_n 3, 1) := by decide +kernel
theorem d_Sr_nextSymbol_50 : decode prog_8_method_16_code 50 = .ok (.isub, 1) := by decide +kernel
theorem d_Sr_nextSymbol_51 : decode prog_8_method_16_code 51 = .ok (.iload 6, 2) := by decide +kernel
theorem d_Sr_nextSymbol_53 : decode prog_8_method_16_code 53 = .ok (.if_icmp .ge 14, 3) := by decide +kernel
theorem d_Sr_nextSymbol_56 : decode prog_8_method_16_code 56 = .ok (.aload_n 1, 1) := by decide +kernel
theorem d_Sr_nextSymbol_57 : decode prog_8_method_16_code 57 = .ok (.iload 4, 2) := by decide +kernel
theorem d_Sr_nextSymbol_59 : decode prog_8_method_16_code 59 = .ok (.iload_n 2, 1) := by decide +kernel
theorem d_Sr_nextSymbol_60 : decode prog_8_method_16_code 60 = .ok (.iadd, 1) := by decide +kernel
theorem d_Sr_nextSymbol_61 : decode prog_8_method_16_code 61 = .ok (.iload_n 3, 1) := by decide +kernel
theorem d_Sr_nextSymbol_62 : decode prog_8_method_16_code 62 = .ok (.isub, 1) := by decide +kernel
theorem d_Sr_nextSymbol_63 : decode prog_8_method_16_code 63 = .ok (.invokevirtual 164, 3) := by decide +kernel
theorem d_Sr_nextSymbol_66 : decode prog_8_method_16_code 66 = .ok (.ireturn, 1) := by decide +kernel
theorem d_Sr_nextSymbol_67 : decode prog_8_method_16_code 67 = .ok (.iload_n 3, 1) := by decide +kernel
theorem d_Sr_nextSymbol_68 : decode prog_8_method_16_code 68 = .ok (.iload 6, 2) := by decide +kernel
theorem d_Sr_nextSymbol_70 : decode prog_8_method_16_code 70 = .ok (.iadd, 1) := by decide +kernel
theorem d_Sr_nextSymbol_71 : decode prog_8_method_16_code 71 = .ok (.istore_n 3, 1) := by decide +kernel
theorem d_Sr_nextSymbol_72 : decode prog_8_method_16_code 72 = .ok (.iload 4, 2) := by decide +kernel
theorem d_Sr_nextSymbol_74 : decode prog_8_method_16_code 74 = .ok (.iload 6, 2) := by decide +kernel
theorem d_Sr_nextSymbol_76 : decode prog_8_method_16_code 76 = .ok (.iadd, 1) := by decide +kernel
theorem d_Sr_nextSymbol_77 : decode prog_8_method_16_code 77 = .ok (.istore 4, 2) := by decide +kernel
theorem d_Sr_nextSymbol_79 : decode prog_8_method_16_code 79 = .ok (.iinc 5 1, 3) := by decide +kernel
theorem d_Sr_nextSymbol_82 : decode prog_8_method_16_code 82 = .ok (.goto (-72), 3) := by decide +kernel
theorem d_Sr_nextSymbol_85 : decode prog_8_method_16_code 85 = .ok (.bipush (-2), 2) := by decide +kernel
theorem d_Sr_nextSymbol_87 : decode prog_8_method_16_code 87 = .ok (.ireturn, 1) := by decide +kernel
theorem d_Sr_isGivenBack_0 : decode prog_8_method_17_code 0 = .ok (.aload_n 1, 1) := by decide +kernel
theorem d_Sr_isGivenBack_1 : decode prog_8_method_17_code 1 = .ok (.aload_n 0, 1) := by decide +kernel
theorem d_Sr_isGivenBack_2 : decode prog_8_method_17_code 2 = .ok (.getfield 20, 3) := by decide +kernel
theorem d_Sr_isGivenBack_5 : decode prog_8_method_17_code 5 = .ok (.aload_n 0, 1) := by decide +kernel
theorem d_Sr_isGivenBack_6 : decode prog_8_method_17_code 6 = .ok (.getfield 106, 3) := by decide +kernel
theorem d_Sr_isGivenBack_9 : decode prog_8_method_17_code 9 = .ok (.invokevirtual 167, 3) := by decide +kernel
theorem d_Sr_isGivenBack_12 : decode prog_8_method_17_code 12 = .ok (.ifCond .ne 11, 3) := by decide +kernel
theorem d_Sr_isGivenBack_15 : decode prog_8_method_17_code 15 = .ok (.aload_n 0, 1) := by decide +kernel
theorem d_Sr_isGivenBack_16 : decode prog_8_method_17_code 16 = .ok (.bipush 9, 2) := by decide +kernel
theorem d_Sr_isGivenBack_18 : decode prog_8_method_17_code 18 = .ok (.iconst 4, 1) := by decide +kernel
theorem d_Sr_isGivenBack_19 : decode prog_8_method_17_code 19 = .ok (.invokevirtual 84, 3) := by decide +kernel
theorem d_Sr_isGivenBack_22 : decode prog_8_method_17_code 22 = .ok (.ireturn, 1) := by decide +kernel
theorem d_Sr_isGivenBack_23 : decode prog_8_method_17_code 23 = .ok (.aload_n 1, 1) := by decide +kernel
theorem d_Sr_isGivenBack_24 : decode prog_8_method_17_code 24 = .ok (.invokevirtual 171, 3) := by decide +kernel
theorem d_Sr_isGivenBack_27 : decode prog_8_method_17_code 27 = .ok (.ifCond .ne 11, 3) := by decide +kernel
theorem d_Sr_isGivenBack_30 : decode prog_8_method_17_code 30 = .ok (.aload_n 0, 1) := by decide +kernel
theorem d_Sr_isGivenBack_31 : decode prog_8_method_17_code 31 = .ok (.bipush 10, 2) := by decide +kernel
theorem d_Sr_isGivenBack_33 : decode prog_8_method_17_code 33 = .ok (.iconst 2, 1) := by decide +kernel
theorem d_Sr_isGivenBack_34 : decode prog_8_method_17_code 34 = .ok (.invokevirtual 84, 3) := by decide +kernel
theorem d_Sr_isGivenBack_37 : decode prog_8_method_17_code 37 = .ok (.ireturn, 1) := by decide +kernel
theorem d_Sr_isGivenBack_38 : decode prog_8_method_17_code 38 = .ok (.aload_n 1, 1) := by decide +kernel
theorem d_Sr_isGivenBack_39 : decode prog_8_method_17_code 39 = .ok (.getfield 174, 3) := by decide +kernel
theorem d_Sr_isGivenBack_42 : decode prog_8_method_17_code 42 = .ok (.invokestatic 177, 3) := by decide +kernel
theorem d_Sr_isGivenBack_45 : decode prog_8_method_17_code 45 = .ok (.aload_n 0, 1) := by decide +kernel
theorem d_Sr_isGivenBack_46 : decode prog_8_method_17_code 46 = .ok (.getfield 109, 3) := by decide +kernel
theorem d_Sr_isGivenBack_49 : decode prog_8_method_17_code 49 = .ok (.if_icmp .eq 14, 3) := by decide +kernel
theorem d_Sr_isGivenBack_52 : decode prog_8_method_17_code 52 = .ok (.aload_n 0, 1) := by decide +kernel
theorem d_Sr_isGivenBack_53 : decode prog_8_method_17_code 53 = .ok (.bipush 11, 2) := by decide +kernel
theorem d_Sr_isGivenBack_55 : decode prog_8_method_17_code 55 = .ok (.bipush 6, 2) := by decide +kernel
theorem d_Sr_isGivenBack_57 : decode prog_8_method_17_code 57 = .ok (.invokevirtual 84, 3) := by decide +kernel
theorem d_Sr_isGivenBack_60 : decode prog_8_method_17_code 60 = .ok (.ifCond .eq 7, 3) := by decide +kernel
theorem d_Sr_isGivenBack_63 : decode prog_8_method_17_code 63 = .ok (.iconst 1, 1) := by decide +kernel
theorem d_Sr_isGivenBack_64 : decode prog_8_method_17_code 64 = .ok (.goto 4, 3) := by decide +kernel
theorem d_Sr_isGivenBack_67 : decode prog_8_method_17_code 67 = .ok (.iconst 0, 1) := by decide +kernel
theorem d_Sr_isGivenBack_68 : decode prog_8_method_17_code 68 = .ok (.ireturn, 1) := by decide +kernel
theorem d_Sr_isAtEnd_0 : decode prog_8_method_18_code 0 = .ok (.aload_n 0, 1) := by decide +kernel
theorem d_Sr_isAtEnd_1 : decode prog_8_method_18_code 1 = .ok (.invokevirtual 92, 3) := by decide +kernel
theorem d_Sr_isAtEnd_4 : decode prog_8_method_18_code 4 = .ok (.istore_n 1, 1) := by decide +kernel
theorem d_Sr_isAtEnd_5 : decode prog_8_method_18_code 5 = .ok (.bipush 8, 2) := by decide +kernel
theorem d_Sr_isAtEnd_7 : decode prog_8_method_18_code 7 = .ok (.aload_n 0, 1) := by decide +kernel
theorem d_Sr_isAtEnd_8 : decode prog_8_method_18_code 8 = .ok (.getfield 27, 3) := by decide +kernel
theorem d_Sr_isAtEnd_11 : decode prog_8_method_18_code 11 = .ok (.bipush 8, 2) := by decide +kernel
theorem d_Sr_isAtEnd_13 : decode prog_8_method_18_code 13 = .ok (.irem, 1) := by decide +kernel
theorem d_Sr_isAtEnd_14 : decode prog_8_method_18_code 14 = .ok (.isub, 1) := by decide +kernel
theorem d_Sr_isAtEnd_15 : decode prog_8_method_18_code 15 = .ok (.bipush 8, 2) := by decide +kernel
theorem d_Sr_isAtEnd_17 : decode prog_8_method_18_code 17 = .ok (.irem, 1) := by decide +kernel
theorem d_Sr_isAtEnd_18 : decode prog_8_method_18_code 18 = .ok (.istore_n 2, 1) := by decide +kernel
theorem d_Sr_isAtEnd_19 : decode prog_8_method_18_code 19 = .ok (.aload_n 0, 1) := by decide +kernel
theorem d_Sr_isAtEnd_20 : decode prog_8_method_18_code 20 = .ok (.iload_n 2, 1) := by decide +kernel
theorem d_Sr_isAtEnd_21 : decode prog_8_method_18_code 21 = .ok (.invokevirtual 103, 3) := by decide +kernel
theorem d_Sr_isAtEnd_24 : decode prog_8_method_18_code 24 = .ok (.ifCond .eq 11, 3) := by decide +kernel
theorem d_Sr_isAtEnd_27 : decode prog_8_method_18_code 27 = .ok (.aload_n 0, 1) := by decide +kernel
theorem d_Sr_isAtEnd_28 : decode prog_8_method_18_code 28 = .ok (.bipush 12, 2) := by decide +kernel
theorem d_Sr_isAtEnd_30 : decode prog_8_method_18_code 30 = .ok (.iload_n 1, 1) := by decide +kernel
theorem d_Sr_isAtEnd_31 : decode prog_8_method_18_code 31 = .ok (.invokevirtual 84, 3) := by decide +kernel
theorem d_Sr_isAtEnd_34 : decode prog_8_method_18_code 34 = .ok (.ireturn, 1) := by decide +kernel
theorem d_Sr_isAtEnd_35 : decode prog_8_method_18_code 35 = .ok (.aload_n 0, 1) := by decide +kernel
theorem d_Sr_isAtEnd_36 : decode prog_8_method_18_code 36 = .ok (.invokevirtual 92, 3) := by decide +kernel
theorem d_Sr_isAtEnd_39 : decode prog_8_method_18_code 39 = .ok (.aload_n 0, 1) := by decide +kernel
theorem d_Sr_isAtEnd_40 : decode prog_8_method_18_code 40 = .ok (.getfield 14, 3) := by decide +kernel
theorem d_Sr_isAtEnd_43 : decode prog_8_method_18_code 43 = .ok (.getfield 83, 3) := by decide +kernel
theorem d_Sr_isAtEnd_46 : decode prog_8_method_18_code 46 = .ok (.if_icmp .eq 16, 3) := by decide +kernel
theorem d_Sr_isAtEnd_49 : decode prog_8_method_18_code 49 = .ok (.aload_n 0, 1) := by decide +kernel
theorem d_Sr_isAtEnd_50 : decode prog_8_method_18_code 50 = .ok (.bipush 12, 2) := by decide +kernel
theorem d_Sr_isAtEnd_52 : decode prog_8_method_18_code 52 = .ok (.aload_n 0, 1) := by decide +kernel
theorem d_Sr_isAtEnd_53 : decode prog_8_method_18_code 53 = .ok (.invokevirtual 92, 3) := by decide +kernel
theorem d_Sr_isAtEnd_56 : decode prog_8_method_18_code 56 = .ok (.invokevirtual 84, 3) := by decide +kernel
theorem d_Sr_isAtEnd_59 : decode prog_8_method_18_code 59 = .ok (.ifCond .eq 7, 3) := by decide +kernel
theorem d_Sr_isAtEnd_62 : decode prog_8_method_18_code 62 = .ok (.iconst 1, 1) := by decide +kernel
theorem d_Sr_isAtEnd_63 : decode prog_8_method_18_code 63 = .ok (.goto 4, 3) := by decide +kernel
theorem d_Sr_isAtEnd_66 : decode prog_8_method_18_code 66 = .ok (.iconst 0, 1) := by decide +kernel
theorem d_Sr_isAtEnd_67 : decode prog_8_method_18_code 67 = .ok (.ireturn, 1) := by decide +kernel
theorem d_Sw_init_0 : decode prog_9_method_1_code 0 = .ok (.aload_n 0, 1) := by decide +kernel
theorem d_Sw_init_1 : decode prog_9_method_1_code 1 = .ok (.invokespecial 3, 3) := by decide +kernel
theorem d_Sw_init_4 : decode prog_9_method_1_code 4 = .ok (.aload_n 0, 1) := by decide +kernel
theorem d_Sw_init_5 : decode prog_9_method_1_code 5 = .ok (.new 9, 3) := by decide +kernel
theorem d_Sw_init_8 : decode prog_9_method_1_code 8 = .ok (.dup, 1) := by decide +kernel
theorem d_Sw_init_9 : decode prog_9_method_1_code 9 = .ok (.sipush 2000, 3) := by decide +kernel
theorem d_Sw_init_12 : decode prog_9_method_1_code 12 = .ok (.invokespecial 11, 3) := by decide +kernel
theorem d_Sw_init_15 : decode prog_9_method_1_code 15 = .ok (.putfield 14, 3) := by decide +kernel
theorem d_Sw_init_18 : decode prog_9_method_1_code 18 = .ok (.return_, 1) := by decide +kernel
theorem d_Sw_writeStream_0 : decode prog_9_method_2_code 0 = .ok (.aload_n 0, 1) := by decide +kernel
theorem d_Sw_writeStream_1 : decode prog_9_method_2_code 1 = .ok (.getfield 14, 3) := by decide +kernel
theorem d_Sw_writeStream_4 : decode prog_9_method_2_code 4 = .ok (.iconst 0, 1) := by decide +kernel
theorem d_Sw_writeStream_5 : decode prog_9_method_2_code 5 = .ok (.invokevirtual 20, 3) := by decide +kernel
theorem d_Sw_writeStream_8 : decode prog_9_method_2_code 8 = .ok (.aload_n 0, 1) := by decide +kernel
theorem d_Sw_writeStream_9 : decode prog_9_method_2_code 9 = .ok (.iconst 0, 1) := by decide +kernel
theorem d_Sw_writeStream_10 : decode prog_9_method_2_code 10 = .ok (.putfield 23, 3) := by decide +kernel
theorem d_Sw_writeStream_13 : decode prog_9_method_2_code 13 = .ok (.aload_n 0, 1) := by decide +kernel
theorem d_Sw_writeStream_14 : decode prog_9_method_2_code 14 = .ok (.iconst 0, 1) := by decide +kernel
theorem d_Sw_writeStream_15 : decode prog_9_method_2_code 15 = .ok (.putfield 27, 3) := by decide +kernel
theorem d_Sw_writeStream_18 : decode prog_9_method_2_code 18 = .ok (.aload_n 3, 1) := by decide +kernel
theorem d_Sw_writeStream_19 : decode prog_9_method_2_code 19 = .ok (.getfield 30, 3) := by decide +kernel
theorem d_Sw_writeStream_22 : decode prog_9_method_2_code 22 = .ok (.aload_n 1, 1) := by decide +kernel
theorem d_Sw_writeStream_23 : decode prog_9_method_2_code 23 = .ok (.invokevirtual 36, 3) := by decide +kernel
theorem d_Sw_writeStream_26 : decode prog_9_method_2_code 26 = .ok (.aload_n 0, 1) := by decide +kernel
theorem d_Sw_writeStream_27 : decode prog_9_method_2_code 27 = .ok (.sipush 21332, 3) := by decide +kernel
theorem d_Sw_writeStream_30 : decode prog_9_method_2_code 30 = .ok (.bipush 16, 2) := by decide +kernel
theorem d_Sw_writeStream_32 : decode prog_9_method_2_code 32 = .ok (.invokevirtual 42, 3) := by decide +kernel
theorem d_Sw_writeStream_35 : decode prog_9_method_2_code 35 = .ok (.aload_n 0, 1) := by decide +kernel
theorem d_Sw_writeStream_36 : decode prog_9_method_2_code 36 = .ok (.aload_n 1, 1) := by decide +kernel
theorem d_Sw_writeStream_37 : decode prog_9_method_2_code 37 = .ok (.getfield 46, 3) := by decide +kernel
theorem d_Sw_writeStream_40 : decode prog_9_method_2_code 40 = .ok (.bipush 16, 2) := by decide +kernel
theorem d_Sw_writeStream_42 : decode prog_9_method_2_code 42 = .ok (.invokevirtual 42, 3) := by decide +kernel
theorem d_Sw_writeStream_45 : decode prog_9_method_2_code 45 = .ok (.aload_n 0, 1) := by decide +kernel
theorem d_Sw_writeStream_46 : decode prog_9_method_2_code 46 = .ok (.aload_n 1, 1) := by decide +kernel
theorem d_Sw_writeStream_47 : decode prog_9_method_2_code 47 = .ok (.getfield 46, 3) := by decide +kernel
theorem d_Sw_writeStream_50 : decode prog_9_method_2_code 50 = .ok (.ifCond .ne 7, 3) := by decide +kernel
theorem d_Sw_writeStream_53 : decode prog_9_method_2_code 53 = .ok (.iconst 0, 1) := by decide +kernel
theorem d_Sw_writeStream_54 : decode prog_9_method_2_code 54 = .ok (.goto 11, 3) := by decide +kernel
theorem d_Sw_writeStream_57 : decode prog_9_method_2_code 57 = .ok (.aload_n 3, 1) := by decide +kernel
theorem d_Sw_writeStream_58 : decode prog_9_method_2_code 58 = .ok (.getfield 30, 3) := by decide +kernel
theorem d_Sw_writeStream_61 : decode prog_9_method_2_code 61 = .ok (.iconst 0, 1) := by decide +kernel
theorem d_Sw_writeStream_62 : decode prog_9_method_2_code 62 = .ok (.invokevirtual 49, 3) := by decide +kernel
theorem d_Sw_writeStream_65 : decode prog_9_method_2_code 65 = .ok (.bipush 16, 2) := by decide +kernel
theorem d_Sw_writeStream_67 : decode prog_9_method_2_code 67 = .ok (.invokevirtual 42, 3) := by decide +kernel
theorem d_Sw_writeStream_70 : decode prog_9_method_2_code 70 = .ok (.aload_n 0, 1) := by decide +kernel
theorem d_Sw_writeStream_71 : decode prog_9_method_2_code 71 = .ok (.iload_n 2, 1) := by decide +kernel
theorem d_Sw_writeStream_72 : decode prog_9_method_2_code 72 = .ok (.bipush 32, 2) := by decide +kernel
theorem d_Sw_writeStream_74 : decode prog_9_method_2_code 74 = .ok (.invokevirtual 42, 3) := by decide +kernel
theorem d_Sw_writeStream_77 : decode prog_9_method_2_code 77 = .ok (.aload_n 1, 1) := by decide +kernel
theorem d_Sw_writeStream_78 : decode prog_9_method_2_code 78 = .ok (.getfield 46, 3) := by decide +kernel
theorem d_Sw_writeStream_81 : decode prog_9_method_2_code 81 = .ok (.ifCond .le 59, 3) := by decide +kernel
theorem d_Sw_writeStream_84 : decode prog_9_method_2_code 84 = .ok (.aload_n 3, 1) := by decide +kernel
theorem d_Sw_writeStream_85 : decode prog_9_method_2_code 85 = .ok (.getfield 53, 3) := by decide +kernel
theorem d_Sw_writeStream_88 : decode prog_9_method_2_code 88 = .ok (.aload_n 3, 1) := by decide +kernel
theorem d_Sw_writeStream_89 : decode prog_9_method_2_code 89 = .ok (.getfield 30, 3) := by decide +kernel
theorem d_Sw_writeStream_92 : decode prog_9_method_2_code 92 = .ok (.getfield 57, 3) := by decide +kernel
theorem d_Sw_writeStream_95 : decode prog_9_method_2_code 95 = .ok (.invokevirtual 60, 3) := by decide +kernel
theorem d_Sw_writeStream_98 : decode prog_9_method_2_code 98 = .ok (.aload_n 3, 1) := by decide +kernel
theorem d_Sw_writeStream_99 : decode prog_9_method_2_code 99 = .ok (.getfield 65, 3) := by decide +kernel
theorem d_Sw_writeStream_102 : decode prog_9_method_2_code 102 = .ok (.aload_n 3, 1) := by decide +kernel
theorem d_Sw_writeStream_103 : decode prog_9_method_2_code 103 = .ok (.getfield 53, 3) := by decide +kernel
theorem d_Sw_writeStream_106 : decode prog_9_method_2_code 106 = .ok (.invokevirtual 69, 3) := by decide +kernel
theorem d_Sw_writeStream_109 : decode prog_9_method_2_code 109 = .ok (.aload_n 0, 1) := by decide +kernel
theorem d_Sw_writeStream_110 : decode prog_9_method_2_code 110 = .ok (.aload_n 3, 1) := by decide +kernel
theorem d_Sw_writeStream_111 : decode prog_9_method_2_code 111 = .ok (.getfield 53, 3) := by decide +kernel
theorem d_Sw_writeStream_114 : decode prog_9_method_2_code 114 = .ok (.getfield 74, 3) := by decide +kernel
theorem d_Sw_writeStream_117 : decode prog_9_method_2_code 117 = .ok (.invokevirtual 78, 3) := by decide +kernel
theorem d_Sw_writeStream_120 : decode prog_9_method_2_code 120 = .ok (.aload_n 0, 1) := by decide +kernel
theorem d_Sw_writeStream_121 : decode prog_9_method_2_code 121 = .ok (.aload_n 3, 1) := by decide +kernel
theorem d_Sw_writeStream_122 : decode prog_9_method_2_code 122 = .ok (.getfield 65, 3) := by decide +kernel
theorem d_Sw_writeStream_125 : decode prog_9_method_2_code 125 = .ok (.invokevirtual 82, 3) := by decide +kernel
theorem d_Sw_writeStream_128 : decode prog_9_method_2_code 128 = .ok (.aload_n 0, 1) := by decide +kernel
theorem d_Sw_writeStream_129 : decode prog_9_method_2_code 129 = .ok (.aload_n 3, 1) := by decide +kernel
theorem d_Sw_writeStream_130 : decode prog_9_method_2_code 130 = .ok (.getfield 53, 3) := by decide +kernel
theorem d_Sw_writeStream_133 : decode prog_9_method_2_code 133 = .ok (.aload_n 3, 1) := by decide +kernel
theorem d_Sw_writeStream_134 : decode prog_9_method_2_code 134 = .ok (.getfield 65, 3) := by decide +kernel
theorem d_Sw_writeStream_137 : decode prog_9_method_2_code 137 = .ok (.invokevirtual 86, 3) := by decide +kernel
theorem d_Sw_writeStream_140 : decode prog_9_method_2_code 140 = .ok (.aload_n 0, 1) := by decide +kernel
theorem d_Sw_writeStream_141 : decode prog_9_method_2_code 141 = .ok (.iconst 0, 1) := by decide +kernel
theorem d_Sw_writeStream_142 : decode prog_9_method_2_code 142 = .ok (.bipush 8, 2) := by decide +kernel
theorem d_Sw_writeStream_144 : decode prog_9_method_2_code 144 = .ok (.aload_n 0, 1) := by decide +kernel
theorem d_Sw_writeStream_145 : decode prog_9_method_2_code 145 = .ok (.getfield 27, 3) := by decide +kernel
theorem d_Sw_writeStream_148 : decode prog_9_method_2_code 148 = .ok (.isub, 1) := by decide +kernel
theorem d_Sw_writeStream_149 : decode prog_9_method_2_code 149 = .ok (.bipush 8, 2) := by decide +kernel
theorem d_Sw_writeStream_151 : decode prog_9_method_2_code 151 = .ok (.irem, 1) := by decide +kernel
theorem d_Sw_writeStream_152 : decode prog_9_method_2_code 152 = .ok (.invokevirtual 42, 3) := by decide +kernel
theorem d_Sw_writeStream_155 : decode prog_9_method_2_code 155 = .ok (.return_, 1) := by decide +kernel

theorem d_Mo_put_0 : decode prog_13_method_38_code 0 = .ok (.iload_n 3, 1) := by decide +kernel
theorem d_Mo_put_1 : decode prog_13_method_38_code 1 = .ok (.iconst 1, 1) := by decide +kernel
theorem d_Mo_put_2 : decode prog_13_method_38_code 2 = .ok (.isub, 1) := by decide +kernel
theorem d_Mo_put_3 : decode prog_13_method_38_code 3 = .ok (.istore 4, 2) := by decide +kernel
theorem d_Mo_put_5 : decode prog_13_method_38_code 5 = .ok (.iload 4, 2) := by decide +kernel
theorem d_Mo_put_7 : decode prog_13_method_38_code 7 = .ok (.ifCond .lt 81, 3) := by decide +kernel
theorem d_Mo_put_10 : decode prog_13_method_38_code 10 = .ok (.aload_n 0, 1) := by decide +kernel
theorem d_Mo_put_11 : decode prog_13_method_38_code 11 = .ok (.getfield 166, 3) := by decide +kernel
theorem d_Mo_put_14 : decode prog_13_method_38_code 14 = .ok (.bipush 8, 2) := by decide +kernel
theorem d_Mo_put_16 : decode prog_13_method_38_code 16 = .ok (.irem, 1) := by decide +kernel
theorem d_Mo_put_17 : decode prog_13_method_38_code 17 = .ok (.ifCond .ne 16, 3) := by decide +kernel
theorem d_Mo_put_20 : decode prog_13_method_38_code 20 = .ok (.aload_n 0, 1) := by decide +kernel
theorem d_Mo_put_21 : decode prog_13_method_38_code 21 = .ok (.getfield 56, 3) := by decide +kernel
theorem d_Mo_put_24 : decode prog_13_method_38_code 24 = .ok (.aload_n 0, 1) := by decide +kernel
theorem d_Mo_put_25 : decode prog_13_method_38_code 25 = .ok (.getfield 166, 3) := by decide +kernel
theorem d_Mo_put_28 : decode prog_13_method_38_code 28 = .ok (.bipush 8, 2) := by decide +kernel
theorem d_Mo_put_30 : decode prog_13_method_38_code 30 = .ok (.idiv, 1) := by decide +kernel
theorem d_Mo_put_31 : decode prog_13_method_38_code 31 = .ok (.iconst 0, 1) := by decide +kernel
theorem d_Mo_put_32 : decode prog_13_method_38_code 32 = .ok (.bastore, 1) := by decide +kernel
theorem d_Mo_put_33 : decode prog_13_method_38_code 33 = .ok (.lload_n 1, 1) := by decide +kernel
theorem d_Mo_put_34 : decode prog_13_method_38_code 34 = .ok (.iload 4, 2) := by decide +kernel
theorem d_Mo_put_36 : decode prog_13_method_38_code 36 = .ok (.lshr, 1) := by decide +kernel
theorem d_Mo_put_37 : decode prog_13_method_38_code 37 = .ok (.lconst 1, 1) := by decide +kernel
theorem d_Mo_put_38 : decode prog_13_method_38_code 38 = .ok (.land, 1) := by decide +kernel
theorem d_Mo_put_39 : decode prog_13_method_38_code 39 = .ok (.lconst 1, 1) := by decide +kernel
theorem d_Mo_put_40 : decode prog_13_method_38_code 40 = .ok (.lcmp, 1) := by decide +kernel
theorem d_Mo_put_41 : decode prog_13_method_38_code 41 = .ok (.ifCond .ne 31, 3) := by decide +kernel
theorem d_Mo_put_44 : decode prog_13_method_38_code 44 = .ok (.aload_n 0, 1) := by decide +kernel
theorem d_Mo_put_45 : decode prog_13_method_38_code 45 = .ok (.getfield 56, 3) := by decide +kernel
theorem d_Mo_put_48 : decode prog_13_method_38_code 48 = .ok (.aload_n 0, 1) := by decide +kernel
theorem d_Mo_put_49 : decode prog_13_method_38_code 49 = .ok (.getfield 166, 3) := by decide +kernel
theorem d_Mo_put_52 : decode prog_13_method_38_code 52 = .ok (.bipush 8, 2) := by decide +kernel
theorem d_Mo_put_54 : decode prog_13_method_38_code 54 = .ok (.idiv, 1) := by decide +kernel
theorem d_Mo_put_55 : decode prog_13_method_38_code 55 = .ok (.dup2, 1) := by decide +kernel
theorem d_Mo_put_56 : decode prog_13_method_38_code 56 = .ok (.baload, 1) := by decide +kernel
theorem d_Mo_put_57 : decode prog_13_method_38_code 57 = .ok (.sipush 128, 3) := by decide +kernel
theorem d_Mo_put_60 : decode prog_13_method_38_code 60 = .ok (.aload_n 0, 1) := by decide +kernel
theorem d_Mo_put_61 : decode prog_13_method_38_code 61 = .ok (.getfield 166, 3) := by decide +kernel
theorem d_Mo_put_64 : decode prog_13_method_38_code 64 = .ok (.bipush 8, 2) := by decide +kernel
theorem d_Mo_put_66 : decode prog_13_method_38_code 66 = .ok (.irem, 1) := by decide +kernel
theorem d_Mo_put_67 : decode prog_13_method_38_code 67 = .ok (.ishr, 1) := by decide +kernel
theorem d_Mo_put_68 : decode prog_13_method_38_code 68 = .ok (.i2b, 1) := by decide +kernel
theorem d_Mo_put_69 : decode prog_13_method_38_code 69 = .ok (.ior, 1) := by decide +kernel
theorem d_Mo_put_70 : decode prog_13_method_38_code 70 = .ok (.i2b, 1) := by decide +kernel
theorem d_Mo_put_71 : decode prog_13_method_38_code 71 = .ok (.bastore, 1) := by decide +kernel
theorem d_Mo_put_72 : decode prog_13_method_38_code 72 = .ok (.aload_n 0, 1) := by decide +kernel
theorem d_Mo_put_73 : decode prog_13_method_38_code 73 = .ok (.dup, 1) := by decide +kernel
theorem d_Mo_put_74 : decode prog_13_method_38_code 74 = .ok (.getfield 166, 3) := by decide +kernel
theorem d_Mo_put_77 : decode prog_13_method_38_code 77 = .ok (.iconst 1, 1) := by decide +kernel
theorem d_Mo_put_78 : decode prog_13_method_38_code 78 = .ok (.iadd, 1) := by decide +kernel
theorem d_Mo_put_79 : decode prog_13_method_38_code 79 = .ok (.putfield 166, 3) := by decide +kernel
theorem d_Mo_put_82 : decode prog_13_method_38_code 82 = .ok (.iinc 4 (-1), 3) := by decide +kernel
theorem d_Mo_put_85 : decode prog_13_method_38_code 85 = .ok (.goto (-80), 3) := by decide +kernel
theorem d_Mo_put_88 : decode prog_13_method_38_code 88 = .ok (.return_, 1) := by decide +kernel
theorem d_Mo_check_0 : decode prog_13_method_39_code 0 = .ok (.iconst (-1), 1) := by decide +kernel
theorem d_Mo_check_1 : decode prog_13_method_39_code 1 = .ok (.istore_n 1, 1) := by decide +kernel
theorem d_Mo_check_2 : decode prog_13_method_39_code 2 = .ok (.iconst 0, 1) := by decide +kernel
theorem d_Mo_check_3 : decode prog_13_method_39_code 3 = .ok (.istore_n 2, 1) := by decide +kernel
theorem d_Mo_check_4 : decode prog_13_method_39_code 4 = .ok (.iload_n 2, 1) := by decide +kernel
theorem d_Mo_check_5 : decode prog_13_method_39_code 5 = .ok (.aload_n 0, 1) := by decide +kernel
theorem d_Mo_check_6 : decode prog_13_method_39_code 6 = .ok (.getfield 76, 3) := by decide +kernel
theorem d_Mo_check_9 : decode prog_13_method_39_code 9 = .ok (.if_icmp .ge 52, 3) := by decide +kernel
theorem d_Mo_check_12 : decode prog_13_method_39_code 12 = .ok (.iload_n 1, 1) := by decide +kernel
theorem d_Mo_check_13 : decode prog_13_method_39_code 13 = .ok (.aload_n 0, 1) := by decide +kernel
theorem d_Mo_check_14 : decode prog_13_method_39_code 14 = .ok (.getfield 7, 3) := by decide +kernel
theorem d_Mo_check_17 : decode prog_13_method_39_code 17 = .ok (.iload_n 2, 1) := by decide +kernel
theorem d_Mo_check_18 : decode prog_13_method_39_code 18 = .ok (.iaload, 1) := by decide +kernel
theorem d_Mo_check_19 : decode prog_13_method_39_code 19 = .ok (.bipush 24, 2) := by decide +kernel
theorem d_Mo_check_21 : decode prog_13_method_39_code 21 = .ok (.ishl, 1) := by decide +kernel
theorem d_Mo_check_22 : decode prog_13_method_39_code 22 = .ok (.ixor, 1) := by decide +kernel
theorem d_Mo_check_23 : decode prog_13_method_39_code 23 = .ok (.istore_n 1, 1) := by decide +kernel
theorem d_Mo_check_24 : decode prog_13_method_39_code 24 = .ok (.iconst 0, 1) := by decide +kernel
theorem d_Mo_check_25 : decode prog_13_method_39_code 25 = .ok (.istore_n 3, 1) := by decide +kernel
theorem d_Mo_check_26 : decode prog_13_method_39_code 26 = .ok (.iload_n 3, 1) := by decide +kernel
theorem d_Mo_check_27 : decode prog_13_method_39_code 27 = .ok (.bipush 8, 2) := by decide +kernel
theorem d_Mo_check_29 : decode prog_13_method_39_code 29 = .ok (.if_icmp .ge 26, 3) := by decide +kernel
theorem d_Mo_check_32 : decode prog_13_method_39_code 32 = .ok (.iload_n 1, 1) := by decide +kernel
theorem d_Mo_check_33 : decode prog_13_method_39_code 33 = .ok (.ifCond .ge 12, 3) := by decide +kernel
theorem d_Mo_check_36 : decode prog_13_method_39_code 36 = .ok (.iload_n 1, 1) := by decide +kernel
theorem d_Mo_check_37 : decode prog_13_method_39_code 37 = .ok (.iconst 1, 1) := by decide +kernel
theorem d_Mo_check_38 : decode prog_13_method_39_code 38 = .ok (.ishl, 1) := by decide +kernel
theorem d_Mo_check_39 : decode prog_13_method_39_code 39 = .ok (.ldc 169, 2) := by decide +kernel
theorem d_Mo_check_41 : decode prog_13_method_39_code 41 = .ok (.ixor, 1) := by decide +kernel
theorem d_Mo_check_42 : decode prog_13_method_39_code 42 = .ok (.goto 6, 3) := by decide +kernel
theorem d_Mo_check_45 : decode prog_13_method_39_code 45 = .ok (.iload_n 1, 1) := by decide +kernel
theorem d_Mo_check_46 : decode prog_13_method_39_code 46 = .ok (.iconst 1, 1) := by decide +kernel
theorem d_Mo_check_47 : decode prog_13_method_39_code 47 = .ok (.ishl, 1) := by decide +kernel
theorem d_Mo_check_48 : decode prog_13_method_39_code 48 = .ok (.istore_n 1, 1) := by decide +kernel
theorem d_Mo_check_49 : decode prog_13_method_39_code 49 = .ok (.iinc 3 1, 3) := by decide +kernel
theorem d_Mo_check_52 : decode prog_13_method_39_code 52 = .ok (.goto (-26), 3) := by decide +kernel
theorem d_Mo_check_55 : decode prog_13_method_39_code 55 = .ok (.iinc 2 1, 3) := by decide +kernel
theorem d_Mo_check_58 : decode prog_13_method_39_code 58 = .ok (.goto (-54), 3) := by decide +kernel
theorem d_Mo_check_61 : decode prog_13_method_39_code 61 = .ok (.iload_n 1, 1) := by decide +kernel
theorem d_Mo_check_62 : decode prog_13_method_39_code 62 = .ok (.iconst (-1), 1) := by decide +kernel
theorem d_Mo_check_63 : decode prog_13_method_39_code 63 = .ok (.ixor, 1) := by decide +kernel
theorem d_Mo_check_64 : decode prog_13_method_39_code 64 = .ok (.ireturn, 1) := by decide +kernel
theorem d_Mo_write_0 : decode prog_13_method_40_code 0 = .ok (.aload_n 0, 1) := by decide +kernel
theorem d_Mo_write_1 : decode prog_13_method_40_code 1 = .ok (.iconst 0, 1) := by decide +kernel
theorem d_Mo_write_2 : decode prog_13_method_40_code 2 = .ok (.putfield 166, 3) := by decide +kernel
theorem d_Mo_write_5 : decode prog_13_method_40_code 5 = .ok (.aload_n 0, 1) := by decide +kernel
theorem d_Mo_write_6 : decode prog_13_method_40_code 6 = .ok (.invokevirtual 90, 3) := by decide +kernel
theorem d_Mo_write_9 : decode prog_13_method_40_code 9 = .ok (.aload_n 0, 1) := by decide +kernel
theorem d_Mo_write_10 : decode prog_13_method_40_code 10 = .ok (.invokevirtual 104, 3) := by decide +kernel
theorem d_Mo_write_13 : decode prog_13_method_40_code 13 = .ok (.aload_n 0, 1) := by decide +kernel
theorem d_Mo_write_14 : decode prog_13_method_40_code 14 = .ok (.getfield 87, 3) := by decide +kernel
theorem d_Mo_write_17 : decode prog_13_method_40_code 17 = .ok (.ifCond .ne 7, 3) := by decide +kernel
theorem d_Mo_write_20 : decode prog_13_method_40_code 20 = .ok (.iconst 0, 1) := by decide +kernel
theorem d_Mo_write_21 : decode prog_13_method_40_code 21 = .ok (.goto 7, 3) := by decide +kernel
theorem d_Mo_write_24 : decode prog_13_method_40_code 24 = .ok (.aload_n 0, 1) := by decide +kernel
theorem d_Mo_write_25 : decode prog_13_method_40_code 25 = .ok (.invokevirtual 107, 3) := by decide +kernel
theorem d_Mo_write_28 : decode prog_13_method_40_code 28 = .ok (.istore_n 1, 1) := by decide +kernel
theorem d_Mo_write_29 : decode prog_13_method_40_code 29 = .ok (.aload_n 0, 1) := by decide +kernel
theorem d_Mo_write_30 : decode prog_13_method_40_code 30 = .ok (.ldc2_w 170, 3) := by decide +kernel
theorem d_Mo_write_33 : decode prog_13_method_40_code 33 = .ok (.bipush 16, 2) := by decide +kernel
theorem d_Mo_write_35 : decode prog_13_method_40_code 35 = .ok (.invokevirtual 172, 3) := by decide +kernel
theorem d_Mo_write_38 : decode prog_13_method_40_code 38 = .ok (.aload_n 0, 1) := by decide +kernel
theorem d_Mo_write_39 : decode prog_13_method_40_code 39 = .ok (.aload_n 0, 1) := by decide +kernel
theorem d_Mo_write_40 : decode prog_13_method_40_code 40 = .ok (.getfield 87, 3) := by decide +kernel
theorem d_Mo_write_43 : decode prog_13_method_40_code 43 = .ok (.i2l, 1) := by decide +kernel
theorem d_Mo_write_44 : decode prog_13_method_40_code 44 = .ok (.bipush 16, 2) := by decide +kernel
theorem d_Mo_write_46 : decode prog_13_method_40_code 46 = .ok (.invokevirtual 172, 3) := by decide +kernel
theorem d_Mo_write_49 : decode prog_13_method_40_code 49 = .ok (.aload_n 0, 1) := by decide +kernel
theorem d_Mo_write_50 : decode prog_13_method_40_code 50 = .ok (.iload_n 1, 1) := by decide +kernel
theorem d_Mo_write_51 : decode prog_13_method_40_code 51 = .ok (.i2l, 1) := by decide +kernel
theorem d_Mo_write_52 : decode prog_13_method_40_code 52 = .ok (.bipush 16, 2) := by decide +kernel
theorem d_Mo_write_54 : decode prog_13_method_40_code 54 = .ok (.invokevirtual 172, 3) := by decide +kernel
theorem d_Mo_write_57 : decode prog_13_method_40_code 57 = .ok (.aload_n 0, 1) := by decide +kernel
theorem d_Mo_write_58 : decode prog_13_method_40_code 58 = .ok (.aload_n 0, 1) := by decide +kernel
theorem d_Mo_write_59 : decode prog_13_method_40_code 59 = .ok (.invokevirtual 176, 3) := by decide +kernel
theorem d_Mo_write_62 : decode prog_13_method_40_code 62 = .ok (.i2l, 1) := by decide +kernel
theorem d_Mo_write_63 : decode prog_13_method_40_code 63 = .ok (.ldc2_w 179, 3) := by decide +kernel
theorem d_Mo_write_66 : decode prog_13_method_40_code 66 = .ok (.land, 1) := by decide +kernel
theorem d_Mo_write_67 : decode prog_13_method_40_code 67 = .ok (.bipush 32, 2) := by decide +kernel
theorem d_Mo_write_69 : decode prog_13_method_40_code 69 = .ok (.invokevirtual 172, 3) := by decide +kernel
theorem d_Mo_write_72 : decode prog_13_method_40_code 72 = .ok (.aload_n 0, 1) := by decide +kernel
theorem d_Mo_write_73 : decode prog_13_method_40_code 73 = .ok (.getfield 87, 3) := by decide +kernel
theorem d_Mo_write_76 : decode prog_13_method_40_code 76 = .ok (.ifCond .le 62, 3) := by decide +kernel
theorem d_Mo_write_79 : decode prog_13_method_40_code 79 = .ok (.iconst 0, 1) := by decide +kernel
theorem d_Mo_write_80 : decode prog_13_method_40_code 80 = .ok (.istore_n 2, 1) := by decide +kernel
theorem d_Mo_write_81 : decode prog_13_method_40_code 81 = .ok (.iload_n 2, 1) := by decide +kernel
theorem d_Mo_write_82 : decode prog_13_method_40_code 82 = .ok (.aload_n 0, 1) := by decide +kernel
theorem d_Mo_write_83 : decode prog_13_method_40_code 83 = .ok (.getfield 87, 3) := by decide +kernel
theorem d_Mo_write_86 : decode prog_13_method_40_code 86 = .ok (.if_icmp .ge 20, 3) := by decide +kernel
theorem d_Mo_write_89 : decode prog_13_method_40_code 89 = .ok (.aload_n 0, 1) := by decide +kernel
theorem d_Mo_write_90 : decode prog_13_method_40_code 90 = .ok (.getfield 28, 3) := by decide +kernel
theorem d_Mo_write_93 : decode prog_13_method_40_code 93 = .ok (.iload_n 2, 1) := by decide +kernel
theorem d_Mo_write_94 : decode prog_13_method_40_code 94 = .ok (.aload_n 0, 1) := by decide +kernel
theorem d_Mo_write_95 : decode prog_13_method_40_code 95 = .ok (.iload_n 2, 1) := by decide +kernel
theorem d_Mo_write_96 : decode prog_13_method_40_code 96 = .ok (.invokevirtual 127, 3) := by decide +kernel
theorem d_Mo_write_99 : decode prog_13_method_40_code 99 = .ok (.iastore, 1) := by decide +kernel
theorem d_Mo_write_100 : decode prog_13_method_40_code 100 = .ok (.iinc 2 1, 3) := by decide +kernel
theorem d_Mo_write_103 : decode prog_13_method_40_code 103 = .ok (.goto (-22), 3) := by decide +kernel
theorem d_Mo_write_106 : decode prog_13_method_40_code 106 = .ok (.iconst 0, 1) := by decide +kernel
theorem d_Mo_write_107 : decode prog_13_method_40_code 107 = .ok (.istore_n 2, 1) := by decide +kernel
theorem d_Mo_write_108 : decode prog_13_method_40_code 108 = .ok (.iload_n 2, 1) := by decide +kernel
theorem d_Mo_write_109 : decode prog_13_method_40_code 109 = .ok (.aload_n 0, 1) := by decide +kernel
theorem d_Mo_write_110 : decode prog_13_method_40_code 110 = .ok (.getfield 87, 3) := by decide +kernel
theorem d_Mo_write_113 : decode prog_13_method_40_code 113 = .ok (.if_icmp .ge 21, 3) := by decide +kernel
theorem d_Mo_write_116 : decode prog_13_method_40_code 116 = .ok (.aload_n 0, 1) := by decide +kernel
theorem d_Mo_write_117 : decode prog_13_method_40_code 117 = .ok (.getfield 13, 3) := by decide +kernel
theorem d_Mo_write_120 : decode prog_13_method_40_code 120 = .ok (.iload_n 2, 1) := by decide +kernel
theorem d_Mo_write_121 : decode prog_13_method_40_code 121 = .ok (.aload_n 0, 1) := by decide +kernel
theorem d_Mo_write_122 : decode prog_13_method_40_code 122 = .ok (.getfield 28, 3) := by decide +kernel
theorem d_Mo_write_125 : decode prog_13_method_40_code 125 = .ok (.iload_n 2, 1) := by decide +kernel
theorem d_Mo_write_126 : decode prog_13_method_40_code 126 = .ok (.iaload, 1) := by decide +kernel
theorem d_Mo_write_127 : decode prog_13_method_40_code 127 = .ok (.iastore, 1) := by decide +kernel
theorem d_Mo_write_128 : decode prog_13_method_40_code 128 = .ok (.iinc 2 1, 3) := by decide +kernel
theorem d_Mo_write_131 : decode prog_13_method_40_code 131 = .ok (.goto (-23), 3) := by decide +kernel
theorem d_Mo_write_134 : decode prog_13_method_40_code 134 = .ok (.aload_n 0, 1) := by decide +kernel
theorem d_Mo_write_135 : decode prog_13_method_40_code 135 = .ok (.invokevirtual 181, 3) := by decide +kernel
theorem d_Mo_write_138 : decode prog_13_method_40_code 138 = .ok (.aload_n 0, 1) := by decide +kernel
theorem d_Mo_write_139 : decode prog_13_method_40_code 139 = .ok (.aload_n 0, 1) := by decide +kernel
theorem d_Mo_write_140 : decode prog_13_method_40_code 140 = .ok (.getfield 166, 3) := by decide +kernel
theorem d_Mo_write_143 : decode prog_13_method_40_code 143 = .ok (.bipush 7, 2) := by decide +kernel
theorem d_Mo_write_145 : decode prog_13_method_40_code 145 = .ok (.iadd, 1) := by decide +kernel
theorem d_Mo_write_146 : decode prog_13_method_40_code 146 = .ok (.bipush 8, 2) := by decide +kernel
theorem d_Mo_write_148 : decode prog_13_method_40_code 148 = .ok (.idiv, 1) := by decide +kernel
theorem d_Mo_write_149 : decode prog_13_method_40_code 149 = .ok (.putfield 184, 3) := by decide +kernel
theorem d_Mo_write_152 : decode prog_13_method_40_code 152 = .ok (.aload_n 0, 1) := by decide +kernel
theorem d_Mo_write_153 : decode prog_13_method_40_code 153 = .ok (.getfield 184, 3) := by decide +kernel
theorem d_Mo_write_156 : decode prog_13_method_40_code 156 = .ok (.ireturn, 1) := by decide +kernel
theorem d_Mo_writeRow_0 : decode prog_13_method_41_code 0 = .ok (.lconst 0, 1) := by decide +kernel
theorem d_Mo_writeRow_1 : decode prog_13_method_41_code 1 = .ok (.lstore_n 1, 1) := by decide +kernel
theorem d_Mo_writeRow_2 : decode prog_13_method_41_code 2 = .ok (.iconst 0, 1) := by decide +kernel
theorem d_Mo_writeRow_3 : decode prog_13_method_41_code 3 = .ok (.istore_n 3, 1) := by decide +kernel
theorem d_Mo_writeRow_4 : decode prog_13_method_41_code 4 = .ok (.iload_n 3, 1) := by decide +kernel
theorem d_Mo_writeRow_5 : decode prog_13_method_41_code 5 = .ok (.sipush 256, 3) := by decide +kernel
theorem d_Mo_writeRow_8 : decode prog_13_method_41_code 8 = .ok (.if_icmp .ge 28, 3) := by decide +kernel
theorem d_Mo_writeRow_11 : decode prog_13_method_41_code 11 = .ok (.aload_n 0, 1) := by decide +kernel
theorem d_Mo_writeRow_12 : decode prog_13_method_41_code 12 = .ok (.iload_n 3, 1) := by decide +kernel
theorem d_Mo_writeRow_13 : decode prog_13_method_41_code 13 = .ok (.invokevirtual 141, 3) := by decide +kernel
theorem d_Mo_writeRow_16 : decode prog_13_method_41_code 16 = .ok (.ifCond .eq 14, 3) := by decide +kernel
theorem d_Mo_writeRow_19 : decode prog_13_method_41_code 19 = .ok (.lload_n 1, 1) := by decide +kernel
theorem d_Mo_writeRow_20 : decode prog_13_method_41_code 20 = .ok (.ldc2_w 187, 3) := by decide +kernel
theorem d_Mo_writeRow_23 : decode prog_13_method_41_code 23 = .ok (.iload_n 3, 1) := by decide +kernel
theorem d_Mo_writeRow_24 : decode prog_13_method_41_code 24 = .ok (.bipush 16, 2) := by decide +kernel
theorem d_Mo_writeRow_26 : decode prog_13_method_41_code 26 = .ok (.idiv, 1) := by decide +kernel
theorem d_Mo_writeRow_27 : decode prog_13_method_41_code 27 = .ok (.lshr, 1) := by decide +kernel
theorem d_Mo_writeRow_28 : decode prog_13_method_41_code 28 = .ok (.lor, 1) := by decide +kernel
theorem d_Mo_writeRow_29 : decode prog_13_method_41_code 29 = .ok (.lstore_n 1, 1) := by decide +kernel
theorem d_Mo_writeRow_30 : decode prog_13_method_41_code 30 = .ok (.iinc 3 1, 3) := by decide +kernel
theorem d_Mo_writeRow_33 : decode prog_13_method_41_code 33 = .ok (.goto (-29), 3) := by decide +kernel
theorem d_Mo_writeRow_36 : decode prog_13_method_41_code 36 = .ok (.aload_n 0, 1) := by decide +kernel
theorem d_Mo_writeRow_37 : decode prog_13_method_41_code 37 = .ok (.lload_n 1, 1) := by decide +kernel
theorem d_Mo_writeRow_38 : decode prog_13_method_41_code 38 = .ok (.bipush 16, 2) := by decide +kernel
theorem d_Mo_writeRow_40 : decode prog_13_method_41_code 40 = .ok (.invokevirtual 172, 3) := by decide +kernel
theorem d_Mo_writeRow_43 : decode prog_13_method_41_code 43 = .ok (.iconst 0, 1) := by decide +kernel
theorem d_Mo_writeRow_44 : decode prog_13_method_41_code 44 = .ok (.istore_n 3, 1) := by decide +kernel
theorem d_Mo_writeRow_45 : decode prog_13_method_41_code 45 = .ok (.iload_n 3, 1) := by decide +kernel
theorem d_Mo_writeRow_46 : decode prog_13_method_41_code 46 = .ok (.bipush 16, 2) := by decide +kernel
theorem d_Mo_writeRow_48 : decode prog_13_method_41_code 48 = .ok (.if_icmp .ge 65, 3) := by decide +kernel
theorem d_Mo_writeRow_51 : decode prog_13_method_41_code 51 = .ok (.lload_n 1, 1) := by decide +kernel
theorem d_Mo_writeRow_52 : decode prog_13_method_41_code 52 = .ok (.bipush 15, 2) := by decide +kernel
theorem d_Mo_writeRow_54 : decode prog_13_method_41_code 54 = .ok (.iload_n 3, 1) := by decide +kernel
theorem d_Mo_writeRow_55 : decode prog_13_method_41_code 55 = .ok (.isub, 1) := by decide +kernel
theorem d_Mo_writeRow_56 : decode prog_13_method_41_code 56 = .ok (.lshr, 1) := by decide +kernel
theorem d_Mo_writeRow_57 : decode prog_13_method_41_code 57 = .ok (.lconst 1, 1) := by decide +kernel
theorem d_Mo_writeRow_58 : decode prog_13_method_41_code 58 = .ok (.land, 1) := by decide +kernel
theorem d_Mo_writeRow_59 : decode prog_13_method_41_code 59 = .ok (.lconst 0, 1) := by decide +kernel
theorem d_Mo_writeRow_60 : decode prog_13_method_41_code 60 = .ok (.lcmp, 1) := by decide +kernel
theorem d_Mo_writeRow_61 : decode prog_13_method_41_code 61 = .ok (.ifCond .ne 6, 3) := by decide +kernel
theorem d_Mo_writeRow_64 : decode prog_13_method_41_code 64 = .ok (.goto 43, 3) := by decide +kernel
theorem d_Mo_writeRow_67 : decode prog_13_method_41_code 67 = .ok (.iconst 0, 1) := by decide +kernel
theorem d_Mo_writeRow_68 : decode prog_13_method_41_code 68 = .ok (.istore 4, 2) := by decide +kernel
theorem d_Mo_writeRow_70 : decode prog_13_method_41_code 70 = .ok (.iload 4, 2) := by decide +kernel
theorem d_Mo_writeRow_72 : decode prog_13_method_41_code 72 = .ok (.bipush 16, 2) := by decide +kernel
theorem d_Mo_writeRow_74 : decode prog_13_method_41_code 74 = .ok (.if_icmp .ge 33, 3) := by decide +kernel
theorem d_Mo_writeRow_77 : decode prog_13_method_41_code 77 = .ok (.aload_n 0, 1) := by decide +kernel
theorem d_Mo_writeRow_78 : decode prog_13_method_41_code 78 = .ok (.aload_n 0, 1) := by decide +kernel
theorem d_Mo_writeRow_79 : decode prog_13_method_41_code 79 = .ok (.bipush 16, 2) := by decide +kernel
theorem d_Mo_writeRow_81 : decode prog_13_method_41_code 81 = .ok (.iload_n 3, 1) := by decide +kernel
theorem d_Mo_writeRow_82 : decode prog_13_method_41_code 82 = .ok (.imul, 1) := by decide +kernel
theorem d_Mo_writeRow_83 : decode prog_13_method_41_code 83 = .ok (.iload 4, 2) := by decide +kernel
theorem d_Mo_writeRow_85 : decode prog_13_method_41_code 85 = .ok (.iadd, 1) := by decide +kernel
theorem d_Mo_writeRow_86 : decode prog_13_method_41_code 86 = .ok (.invokevirtual 141, 3) := by decide +kernel
theorem d_Mo_writeRow_89 : decode prog_13_method_41_code 89 = .ok (.ifCond .eq 7, 3) := by decide +kernel
theorem d_Mo_writeRow_92 : decode prog_13_method_41_code 92 = .ok (.lconst 1, 1) := by decide +kernel
theorem d_Mo_writeRow_93 : decode prog_13_method_41_code 93 = .ok (.goto 4, 3) := by decide +kernel
theorem d_Mo_writeRow_96 : decode prog_13_method_41_code 96 = .ok (.lconst 0, 1) := by decide +kernel
theorem d_Mo_writeRow_97 : decode prog_13_method_41_code 97 = .ok (.iconst 1, 1) := by decide +kernel
theorem d_Mo_writeRow_98 : decode prog_13_method_41_code 98 = .ok (.invokevirtual 172, 3) := by decide +kernel
theorem d_Mo_writeRow_101 : decode prog_13_method_41_code 101 = .ok (.iinc 4 1, 3) := by decide +kernel
theorem d_Mo_writeRow_104 : decode prog_13_method_41_code 104 = .ok (.goto (-34), 3) := by decide +kernel
theorem d_Mo_writeRow_107 : decode prog_13_method_41_code 107 = .ok (.iinc 3 1, 3) := by decide +kernel
theorem d_Mo_writeRow_110 : decode prog_13_method_41_code 110 = .ok (.goto (-65), 3) := by decide +kernel
theorem d_Mo_writeRow_113 : decode prog_13_method_41_code 113 = .ok (.aload_n 0, 1) := by decide +kernel
theorem d_Mo_writeRow_114 : decode prog_13_method_41_code 114 = .ok (.invokevirtual 160, 3) := by decide +kernel
theorem d_Mo_writeRow_117 : decode prog_13_method_41_code 117 = .ok (.aload_n 0, 1) := by decide +kernel
theorem d_Mo_writeRow_118 : decode prog_13_method_41_code 118 = .ok (.invokevirtual 163, 3) := by decide +kernel
theorem d_Mo_writeRow_121 : decode prog_13_method_41_code 121 = .ok (.aload_n 0, 1) := by decide +kernel
theorem d_Mo_writeRow_122 : decode prog_13_method_41_code 122 = .ok (.getfield 37, 3) := by decide +kernel
theorem d_Mo_writeRow_125 : decode prog_13_method_41_code 125 = .ok (.iconst 0, 1) := by decide +kernel
theorem d_Mo_writeRow_126 : decode prog_13_method_41_code 126 = .ok (.iaload, 1) := by decide +kernel
theorem d_Mo_writeRow_127 : decode prog_13_method_41_code 127 = .ok (.istore_n 3, 1) := by decide +kernel
theorem d_Mo_writeRow_128 : decode prog_13_method_41_code 128 = .ok (.aload_n 0, 1) := by decide +kernel
theorem d_Mo_writeRow_129 : decode prog_13_method_41_code 129 = .ok (.iload_n 3, 1) := by decide +kernel
theorem d_Mo_writeRow_130 : decode prog_13_method_41_code 130 = .ok (.i2l, 1) := by decide +kernel
theorem d_Mo_writeRow_131 : decode prog_13_method_41_code 131 = .ok (.iconst 4, 1) := by decide +kernel
theorem d_Mo_writeRow_132 : decode prog_13_method_41_code 132 = .ok (.invokevirtual 172, 3) := by decide +kernel
theorem d_Mo_writeRow_135 : decode prog_13_method_41_code 135 = .ok (.iconst 0, 1) := by decide +kernel
theorem d_Mo_writeRow_136 : decode prog_13_method_41_code 136 = .ok (.istore 4, 2) := by decide +kernel
theorem d_Mo_writeRow_138 : decode prog_13_method_41_code 138 = .ok (.iload 4, 2) := by decide +kernel
theorem d_Mo_writeRow_140 : decode prog_13_method_41_code 140 = .ok (.aload_n 0, 1) := by decide +kernel
theorem d_Mo_writeRow_141 : decode prog_13_method_41_code 141 = .ok (.getfield 138, 3) := by decide +kernel
theorem d_Mo_writeRow_144 : decode prog_13_method_41_code 144 = .ok (.iconst 2, 1) := by decide +kernel
theorem d_Mo_writeRow_145 : decode prog_13_method_41_code 145 = .ok (.iadd, 1) := by decide +kernel
theorem d_Mo_writeRow_146 : decode prog_13_method_41_code 146 = .ok (.if_icmp .ge 65, 3) := by decide +kernel
theorem d_Mo_writeRow_149 : decode prog_13_method_41_code 149 = .ok (.aload_n 0, 1) := by decide +kernel
theorem d_Mo_writeRow_150 : decode prog_13_method_41_code 150 = .ok (.getfield 37, 3) := by decide +kernel
theorem d_Mo_writeRow_153 : decode prog_13_method_41_code 153 = .ok (.iload 4, 2) := by decide +kernel
theorem d_Mo_writeRow_155 : decode prog_13_method_41_code 155 = .ok (.iaload, 1) := by decide +kernel
theorem d_Mo_writeRow_156 : decode prog_13_method_41_code 156 = .ok (.iload_n 3, 1) := by decide +kernel
theorem d_Mo_writeRow_157 : decode prog_13_method_41_code 157 = .ok (.if_icmp .le 17, 3) := by decide +kernel
theorem d_Mo_writeRow_160 : decode prog_13_method_41_code 160 = .ok (.aload_n 0, 1) := by decide +kernel
theorem d_Mo_writeRow_161 : decode prog_13_method_41_code 161 = .ok (.ldc2_w 122, 3) := by decide +kernel
theorem d_Mo_writeRow_164 : decode prog_13_method_41_code 164 = .ok (.iconst 2, 1) := by decide +kernel
theorem d_Mo_writeRow_165 : decode prog_13_method_41_code 165 = .ok (.invokevirtual 172, 3) := by decide +kernel
theorem d_Mo_writeRow_168 : decode prog_13_method_41_code 168 = .ok (.iinc 3 1, 3) := by decide +kernel
theorem d_Mo_writeRow_171 : decode prog_13_method_41_code 171 = .ok (.goto (-22), 3) := by decide +kernel
theorem d_Mo_writeRow_174 : decode prog_13_method_41_code 174 = .ok (.aload_n 0, 1) := by decide +kernel
theorem d_Mo_writeRow_175 : decode prog_13_method_41_code 175 = .ok (.getfield 37, 3) := by decide +kernel
theorem d_Mo_writeRow_178 : decode prog_13_method_41_code 178 = .ok (.iload 4, 2) := by decide +kernel
theorem d_Mo_writeRow_180 : decode prog_13_method_41_code 180 = .ok (.iaload, 1) := by decide +kernel
theorem d_Mo_writeRow_181 : decode prog_13_method_41_code 181 = .ok (.iload_n 3, 1) := by decide +kernel
theorem d_Mo_writeRow_182 : decode prog_13_method_41_code 182 = .ok (.if_icmp .ge 17, 3) := by decide +kernel
theorem d_Mo_writeRow_185 : decode prog_13_method_41_code 185 = .ok (.aload_n 0, 1) := by decide +kernel
theorem d_Mo_writeRow_186 : decode prog_13_method_41_code 186 = .ok (.ldc2_w 189, 3) := by decide +kernel
theorem d_Mo_writeRow_189 : decode prog_13_method_41_code 189 = .ok (.iconst 2, 1) := by decide +kernel
theorem d_Mo_writeRow_190 : decode prog_13_method_41_code 190 = .ok (.invokevirtual 172, 3) := by decide +kernel
theorem d_Mo_writeRow_193 : decode prog_13_method_41_code 193 = .ok (.iinc 3 (-1), 3) := by decide +kernel
theorem d_Mo_writeRow_196 : decode prog_13_method_41_code 196 = .ok (.goto (-22), 3) := by decide +kernel
theorem d_Mo_writeRow_199 : decode prog_13_method_41_code 199 = .ok (.aload_n 0, 1) := by decide +kernel
theorem d_Mo_writeRow_200 : decode prog_13_method_41_code 200 = .ok (.lconst 0, 1) := by decide +kernel
theorem d_Mo_writeRow_201 : decode prog_13_method_41_code 201 = .ok (.iconst 1, 1) := by decide +kernel
theorem d_Mo_writeRow_202 : decode prog_13_method_41_code 202 = .ok (.invokevirtual 172, 3) := by decide +kernel
theorem d_Mo_writeRow_205 : decode prog_13_method_41_code 205 = .ok (.iinc 4 1, 3) := by decide +kernel
theorem d_Mo_writeRow_208 : decode prog_13_method_41_code 208 = .ok (.goto (-70), 3) := by decide +kernel
theorem d_Mo_writeRow_211 : decode prog_13_method_41_code 211 = .ok (.iconst 0, 1) := by decide +kernel
theorem d_Mo_writeRow_212 : decode prog_13_method_41_code 212 = .ok (.istore 4, 2) := by decide +kernel
theorem d_Mo_writeRow_214 : decode prog_13_method_41_code 214 = .ok (.iload 4, 2) := by decide +kernel
theorem d_Mo_writeRow_216 : decode prog_13_method_41_code 216 = .ok (.aload_n 0, 1) := by decide +kernel
theorem d_Mo_writeRow_217 : decode prog_13_method_41_code 217 = .ok (.getfield 135, 3) := by decide +kernel
theorem d_Mo_writeRow_220 : decode prog_13_method_41_code 220 = .ok (.if_icmp .ge 38, 3) := by decide +kernel
theorem d_Mo_writeRow_223 : decode prog_13_method_41_code 223 = .ok (.aload_n 0, 1) := by decide +kernel
theorem d_Mo_writeRow_224 : decode prog_13_method_41_code 224 = .ok (.aload_n 0, 1) := by decide +kernel
theorem d_Mo_writeRow_225 : decode prog_13_method_41_code 225 = .ok (.getfield 40, 3) := by decide +kernel
theorem d_Mo_writeRow_228 : decode prog_13_method_41_code 228 = .ok (.aload_n 0, 1) := by decide +kernel
theorem d_Mo_writeRow_229 : decode prog_13_method_41_code 229 = .ok (.getfield 34, 3) := by decide +kernel
theorem d_Mo_writeRow_232 : decode prog_13_method_41_code 232 = .ok (.iload 4, 2) := by decide +kernel
theorem d_Mo_writeRow_234 : decode prog_13_method_41_code 234 = .ok (.iaload, 1) := by decide +kernel
theorem d_Mo_writeRow_235 : decode prog_13_method_41_code 235 = .ok (.iaload, 1) := by decide +kernel
theorem d_Mo_writeRow_236 : decode prog_13_method_41_code 236 = .ok (.i2l, 1) := by decide +kernel
theorem d_Mo_writeRow_237 : decode prog_13_method_41_code 237 = .ok (.aload_n 0, 1) := by decide +kernel
theorem d_Mo_writeRow_238 : decode prog_13_method_41_code 238 = .ok (.getfield 37, 3) := by decide +kernel
theorem d_Mo_writeRow_241 : decode prog_13_method_41_code 241 = .ok (.aload_n 0, 1) := by decide +kernel
theorem d_Mo_writeRow_242 : decode prog_13_method_41_code 242 = .ok (.getfield 34, 3) := by decide +kernel
theorem d_Mo_writeRow_245 : decode prog_13_method_41_code 245 = .ok (.iload 4, 2) := by decide +kernel
theorem d_Mo_writeRow_247 : decode prog_13_method_41_code 247 = .ok (.iaload, 1) := by decide +kernel
theorem d_Mo_writeRow_248 : decode prog_13_method_41_code 248 = .ok (.iaload, 1) := by decide +kernel
theorem d_Mo_writeRow_249 : decode prog_13_method_41_code 249 = .ok (.invokevirtual 172, 3) := by decide +kernel
theorem d_Mo_writeRow_252 : decode prog_13_method_41_code 252 = .ok (.iinc 4 1, 3) := by decide +kernel
theorem d_Mo_writeRow_255 : decode prog_13_method_41_code 255 = .ok (.goto (-41), 3) := by decide +kernel
theorem d_Mo_writeRow_258 : decode prog_13_method_41_code 258 = .ok (.return_, 1) := by decide +kernel
theorem d_Mo_out_0 : decode prog_13_method_42_code 0 = .ok (.iload_n 1, 1) := by decide +kernel
theorem d_Mo_out_1 : decode prog_13_method_42_code 1 = .ok (.i2l, 1) := by decide +kernel
theorem d_Mo_out_2 : decode prog_13_method_42_code 2 = .ok (.lconst 0, 1) := by decide +kernel
theorem d_Mo_out_3 : decode prog_13_method_42_code 3 = .ok (.aload_n 0, 1) := by decide +kernel
theorem d_Mo_out_4 : decode prog_13_method_42_code 4 = .ok (.getfield 184, 3) := by decide +kernel
theorem d_Mo_out_7 : decode prog_13_method_42_code 7 = .ok (.iconst 1, 1) := by decide +kernel
theorem d_Mo_out_8 : decode prog_13_method_42_code 8 = .ok (.isub, 1) := by decide +kernel
theorem d_Mo_out_9 : decode prog_13_method_42_code 9 = .ok (.i2l, 1) := by decide +kernel
theorem d_Mo_out_10 : decode prog_13_method_42_code 10 = .ok (.invokestatic 72, 3) := by decide +kernel
theorem d_Mo_out_13 : decode prog_13_method_42_code 13 = .ok (.ifCond .eq 16, 3) := by decide +kernel
theorem d_Mo_out_16 : decode prog_13_method_42_code 16 = .ok (.aload_n 0, 1) := by decide +kernel
theorem d_Mo_out_17 : decode prog_13_method_42_code 17 = .ok (.getfield 56, 3) := by decide +kernel
theorem d_Mo_out_20 : decode prog_13_method_42_code 20 = .ok (.iload_n 1, 1) := by decide +kernel
theorem d_Mo_out_21 : decode prog_13_method_42_code 21 = .ok (.baload, 1) := by decide +kernel
theorem d_Mo_out_22 : decode prog_13_method_42_code 22 = .ok (.sipush 255, 3) := by decide +kernel
theorem d_Mo_out_25 : decode prog_13_method_42_code 25 = .ok (.iand, 1) := by decide +kernel
theorem d_Mo_out_26 : decode prog_13_method_42_code 26 = .ok (.goto 5, 3) := by decide +kernel
theorem d_Mo_out_29 : decode prog_13_method_42_code 29 = .ok (.bipush (-2), 2) := by decide +kernel
theorem d_Mo_out_31 : decode prog_13_method_42_code 31 = .ok (.ireturn, 1) := by decide +kernel
theorem d_Mo_tape_0 : decode prog_13_method_43_code 0 = .ok (.iload_n 3, 1) := by decide +kernel
theorem d_Mo_tape_1 : decode prog_13_method_43_code 1 = .ok (.i2l, 1) := by decide +kernel
theorem d_Mo_tape_2 : decode prog_13_method_43_code 2 = .ok (.lconst 1, 1) := by decide +kernel
theorem d_Mo_tape_3 : decode prog_13_method_43_code 3 = .ok (.ldc2_w 70, 3) := by decide +kernel
theorem d_Mo_tape_6 : decode prog_13_method_43_code 6 = .ok (.invokestatic 72, 3) := by decide +kernel
theorem d_Mo_tape_9 : decode prog_13_method_43_code 9 = .ok (.ifCond .ne 5, 3) := by decide +kernel
theorem d_Mo_tape_12 : decode prog_13_method_43_code 12 = .ok (.iconst (-1), 1) := by decide +kernel
theorem d_Mo_tape_13 : decode prog_13_method_43_code 13 = .ok (.ireturn, 1) := by decide +kernel
theorem d_Mo_tape_14 : decode prog_13_method_43_code 14 = .ok (.aload_n 0, 1) := by decide +kernel
theorem d_Mo_tape_15 : decode prog_13_method_43_code 15 = .ok (.getfield 191, 3) := by decide +kernel
theorem d_Mo_tape_18 : decode prog_13_method_43_code 18 = .ok (.iload_n 3, 1) := by decide +kernel
theorem d_Mo_tape_19 : decode prog_13_method_43_code 19 = .ok (.iadd, 1) := by decide +kernel
theorem d_Mo_tape_20 : decode prog_13_method_43_code 20 = .ok (.sipush 3000, 3) := by decide +kernel
theorem d_Mo_tape_23 : decode prog_13_method_43_code 23 = .ok (.if_icmp .le 6, 3) := by decide +kernel
theorem d_Mo_tape_26 : decode prog_13_method_43_code 26 = .ok (.bipush (-3), 2) := by decide +kernel
theorem d_Mo_tape_28 : decode prog_13_method_43_code 28 = .ok (.ireturn, 1) := by decide +kernel
theorem d_Mo_tape_29 : decode prog_13_method_43_code 29 = .ok (.iconst 0, 1) := by decide +kernel
theorem d_Mo_tape_30 : decode prog_13_method_43_code 30 = .ok (.istore 4, 2) := by decide +kernel
theorem d_Mo_tape_32 : decode prog_13_method_43_code 32 = .ok (.iload 4, 2) := by decide +kernel
theorem d_Mo_tape_34 : decode prog_13_method_43_code 34 = .ok (.iload_n 3, 1) := by decide +kernel
theorem d_Mo_tape_35 : decode prog_13_method_43_code 35 = .ok (.if_icmp .ge 34, 3) := by decide +kernel
theorem d_Mo_tape_38 : decode prog_13_method_43_code 38 = .ok (.aload_n 0, 1) := by decide +kernel
theorem d_Mo_tape_39 : decode prog_13_method_43_code 39 = .ok (.getfield 60, 3) := by decide +kernel
theorem d_Mo_tape_42 : decode prog_13_method_43_code 42 = .ok (.aload_n 0, 1) := by decide +kernel
theorem d_Mo_tape_43 : decode prog_13_method_43_code 43 = .ok (.dup, 1) := by decide +kernel
theorem d_Mo_tape_44 : decode prog_13_method_43_code 44 = .ok (.getfield 191, 3) := by decide +kernel
theorem d_Mo_tape_47 : decode prog_13_method_43_code 47 = .ok (.dup_x1, 1) := by decide +kernel
theorem d_Mo_tape_48 : decode prog_13_method_43_code 48 = .ok (.iconst 1, 1) := by decide +kernel
theorem d_Mo_tape_49 : decode prog_13_method_43_code 49 = .ok (.iadd, 1) := by decide +kernel
theorem d_Mo_tape_50 : decode prog_13_method_43_code 50 = .ok (.putfield 191, 3) := by decide +kernel
theorem d_Mo_tape_53 : decode prog_13_method_43_code 53 = .ok (.lload_n 1, 1) := by decide +kernel
theorem d_Mo_tape_54 : decode prog_13_method_43_code 54 = .ok (.bipush 8, 2) := by decide +kernel
theorem d_Mo_tape_56 : decode prog_13_method_43_code 56 = .ok (.iload 4, 2) := by decide +kernel
theorem d_Mo_tape_58 : decode prog_13_method_43_code 58 = .ok (.imul, 1) := by decide +kernel
theorem d_Mo_tape_59 : decode prog_13_method_43_code 59 = .ok (.lushr, 1) := by decide +kernel
theorem d_Mo_tape_60 : decode prog_13_method_43_code 60 = .ok (.l2i, 1) := by decide +kernel
theorem d_Mo_tape_61 : decode prog_13_method_43_code 61 = .ok (.i2b, 1) := by decide +kernel
theorem d_Mo_tape_62 : decode prog_13_method_43_code 62 = .ok (.bastore, 1) := by decide +kernel
theorem d_Mo_tape_63 : decode prog_13_method_43_code 63 = .ok (.iinc 4 1, 3) := by decide +kernel
theorem d_Mo_tape_66 : decode prog_13_method_43_code 66 = .ok (.goto (-34), 3) := by decide +kernel
theorem d_Mo_tape_69 : decode prog_13_method_43_code 69 = .ok (.aload_n 0, 1) := by decide +kernel
theorem d_Mo_tape_70 : decode prog_13_method_43_code 70 = .ok (.getfield 191, 3) := by decide +kernel
theorem d_Mo_tape_73 : decode prog_13_method_43_code 73 = .ok (.ireturn, 1) := by decide +kernel
theorem d_Mo_take_0 : decode prog_13_method_44_code 0 = .ok (.iconst 0, 1) := by decide +kernel
theorem d_Mo_take_1 : decode prog_13_method_44_code 1 = .ok (.istore_n 1, 1) := by decide +kernel
theorem d_Mo_take_2 : decode prog_13_method_44_code 2 = .ok (.iload_n 1, 1) := by decide +kernel
theorem d_Mo_take_3 : decode prog_13_method_44_code 3 = .ok (.aload_n 0, 1) := by decide +kernel
theorem d_Mo_take_4 : decode prog_13_method_44_code 4 = .ok (.getfield 184, 3) := by decide +kernel
theorem d_Mo_take_7 : decode prog_13_method_44_code 7 = .ok (.if_icmp .ge 21, 3) := by decide +kernel
theorem d_Mo_take_10 : decode prog_13_method_44_code 10 = .ok (.aload_n 0, 1) := by decide +kernel
theorem d_Mo_take_11 : decode prog_13_method_44_code 11 = .ok (.getfield 60, 3) := by decide +kernel
theorem d_Mo_take_14 : decode prog_13_method_44_code 14 = .ok (.iload_n 1, 1) := by decide +kernel
theorem d_Mo_take_15 : decode prog_13_method_44_code 15 = .ok (.aload_n 0, 1) := by decide +kernel
theorem d_Mo_take_16 : decode prog_13_method_44_code 16 = .ok (.getfield 56, 3) := by decide +kernel
theorem d_Mo_take_19 : decode prog_13_method_44_code 19 = .ok (.iload_n 1, 1) := by decide +kernel
theorem d_Mo_take_20 : decode prog_13_method_44_code 20 = .ok (.baload, 1) := by decide +kernel
theorem d_Mo_take_21 : decode prog_13_method_44_code 21 = .ok (.bastore, 1) := by decide +kernel
theorem d_Mo_take_22 : decode prog_13_method_44_code 22 = .ok (.iinc 1 1, 3) := by decide +kernel
theorem d_Mo_take_25 : decode prog_13_method_44_code 25 = .ok (.goto (-23), 3) := by decide +kernel
theorem d_Mo_take_28 : decode prog_13_method_44_code 28 = .ok (.aload_n 0, 1) := by decide +kernel
theorem d_Mo_take_29 : decode prog_13_method_44_code 29 = .ok (.aload_n 0, 1) := by decide +kernel
theorem d_Mo_take_30 : decode prog_13_method_44_code 30 = .ok (.getfield 184, 3) := by decide +kernel
theorem d_Mo_take_33 : decode prog_13_method_44_code 33 = .ok (.putfield 191, 3) := by decide +kernel
theorem d_Mo_take_36 : decode prog_13_method_44_code 36 = .ok (.aload_n 0, 1) := by decide +kernel
theorem d_Mo_take_37 : decode prog_13_method_44_code 37 = .ok (.getfield 191, 3) := by decide +kernel
theorem d_Mo_take_40 : decode prog_13_method_44_code 40 = .ok (.ireturn, 1) := by decide +kernel
theorem d_Mo_spoil_0 : decode prog_13_method_45_code 0 = .ok (.iload_n 1, 1) := by decide +kernel
theorem d_Mo_spoil_1 : decode prog_13_method_45_code 1 = .ok (.i2l, 1) := by decide +kernel
theorem d_Mo_spoil_2 : decode prog_13_method_45_code 2 = .ok (.lconst 0, 1) := by decide +kernel
theorem d_Mo_spoil_3 : decode prog_13_method_45_code 3 = .ok (.aload_n 0, 1) := by decide +kernel
theorem d_Mo_spoil_4 : decode prog_13_method_45_code 4 = .ok (.getfield 191, 3) := by decide +kernel
theorem d_Mo_spoil_7 : decode prog_13_method_45_code 7 = .ok (.iconst 1, 1) := by decide +kernel
theorem d_Mo_spoil_8 : decode prog_13_method_45_code 8 = .ok (.isub, 1) := by decide +kernel
theorem d_Mo_spoil_9 : decode prog_13_method_45_code 9 = .ok (.i2l, 1) := by decide +kernel
theorem d_Mo_spoil_10 : decode prog_13_method_45_code 10 = .ok (.invokestatic 72, 3) := by decide +kernel
theorem d_Mo_spoil_13 : decode prog_13_method_45_code 13 = .ok (.ifCond .eq 15, 3) := by decide +kernel
theorem d_Mo_spoil_16 : decode prog_13_method_45_code 16 = .ok (.iload_n 2, 1) := by decide +kernel
theorem d_Mo_spoil_17 : decode prog_13_method_45_code 17 = .ok (.i2l, 1) := by decide +kernel
theorem d_Mo_spoil_18 : decode prog_13_method_45_code 18 = .ok (.lconst 0, 1) := by decide +kernel
theorem d_Mo_spoil_19 : decode prog_13_method_45_code 19 = .ok (.ldc2_w 79, 3) := by decide +kernel
theorem d_Mo_spoil_22 : decode prog_13_method_45_code 22 = .ok (.invokestatic 72, 3) := by decide +kernel
theorem d_Mo_spoil_25 : decode prog_13_method_45_code 25 = .ok (.ifCond .ne 5, 3) := by decide +kernel
theorem d_Mo_spoil_28 : decode prog_13_method_45_code 28 = .ok (.iconst (-1), 1) := by decide +kernel
theorem d_Mo_spoil_29 : decode prog_13_method_45_code 29 = .ok (.ireturn, 1) := by decide +kernel
theorem d_Mo_spoil_30 : decode prog_13_method_45_code 30 = .ok (.aload_n 0, 1) := by decide +kernel
theorem d_Mo_spoil_31 : decode prog_13_method_45_code 31 = .ok (.getfield 60, 3) := by decide +kernel
theorem d_Mo_spoil_34 : decode prog_13_method_45_code 34 = .ok (.iload_n 1, 1) := by decide +kernel
theorem d_Mo_spoil_35 : decode prog_13_method_45_code 35 = .ok (.dup2, 1) := by decide +kernel
theorem d_Mo_spoil_36 : decode prog_13_method_45_code 36 = .ok (.baload, 1) := by decide +kernel
theorem d_Mo_spoil_37 : decode prog_13_method_45_code 37 = .ok (.iload_n 2, 1) := by decide +kernel
theorem d_Mo_spoil_38 : decode prog_13_method_45_code 38 = .ok (.i2b, 1) := by decide +kernel
theorem d_Mo_spoil_39 : decode prog_13_method_45_code 39 = .ok (.ixor, 1) := by decide +kernel
theorem d_Mo_spoil_40 : decode prog_13_method_45_code 40 = .ok (.i2b, 1) := by decide +kernel
theorem d_Mo_spoil_41 : decode prog_13_method_45_code 41 = .ok (.bastore, 1) := by decide +kernel
theorem d_Mo_spoil_42 : decode prog_13_method_45_code 42 = .ok (.aload_n 0, 1) := by decide +kernel
theorem d_Mo_spoil_43 : decode prog_13_method_45_code 43 = .ok (.getfield 60, 3) := by decide +kernel
theorem d_Mo_spoil_46 : decode prog_13_method_45_code 46 = .ok (.iload_n 1, 1) := by decide +kernel
theorem d_Mo_spoil_47 : decode prog_13_method_45_code 47 = .ok (.baload, 1) := by decide +kernel
theorem d_Mo_spoil_48 : decode prog_13_method_45_code 48 = .ok (.sipush 255, 3) := by decide +kernel
theorem d_Mo_spoil_51 : decode prog_13_method_45_code 51 = .ok (.iand, 1) := by decide +kernel
theorem d_Mo_spoil_52 : decode prog_13_method_45_code 52 = .ok (.ireturn, 1) := by decide +kernel
theorem d_Mo_cut_0 : decode prog_13_method_46_code 0 = .ok (.iload_n 1, 1) := by decide +kernel
theorem d_Mo_cut_1 : decode prog_13_method_46_code 1 = .ok (.i2l, 1) := by decide +kernel
theorem d_Mo_cut_2 : decode prog_13_method_46_code 2 = .ok (.lconst 0, 1) := by decide +kernel
theorem d_Mo_cut_3 : decode prog_13_method_46_code 3 = .ok (.aload_n 0, 1) := by decide +kernel
theorem d_Mo_cut_4 : decode prog_13_method_46_code 4 = .ok (.getfield 191, 3) := by decide +kernel
theorem d_Mo_cut_7 : decode prog_13_method_46_code 7 = .ok (.i2l, 1) := by decide +kernel
theorem d_Mo_cut_8 : decode prog_13_method_46_code 8 = .ok (.invokestatic 72, 3) := by decide +kernel
theorem d_Mo_cut_11 : decode prog_13_method_46_code 11 = .ok (.ifCond .ne 5, 3) := by decide +kernel
theorem d_Mo_cut_14 : decode prog_13_method_46_code 14 = .ok (.iconst (-1), 1) := by decide +kernel
theorem d_Mo_cut_15 : decode prog_13_method_46_code 15 = .ok (.ireturn, 1) := by decide +kernel
theorem d_Mo_cut_16 : decode prog_13_method_46_code 16 = .ok (.aload_n 0, 1) := by decide +kernel
theorem d_Mo_cut_17 : decode prog_13_method_46_code 17 = .ok (.getfield 191, 3) := by decide +kernel
theorem d_Mo_cut_20 : decode prog_13_method_46_code 20 = .ok (.istore_n 2, 1) := by decide +kernel
theorem d_Mo_cut_21 : decode prog_13_method_46_code 21 = .ok (.aload_n 0, 1) := by decide +kernel
theorem d_Mo_cut_22 : decode prog_13_method_46_code 22 = .ok (.iload_n 1, 1) := by decide +kernel
theorem d_Mo_cut_23 : decode prog_13_method_46_code 23 = .ok (.putfield 191, 3) := by decide +kernel
theorem d_Mo_cut_26 : decode prog_13_method_46_code 26 = .ok (.iload_n 2, 1) := by decide +kernel
theorem d_Mo_cut_27 : decode prog_13_method_46_code 27 = .ok (.ireturn, 1) := by decide +kernel
theorem d_Mo_wrong_0 : decode prog_13_method_47_code 0 = .ok (.aload_n 0, 1) := by decide +kernel
theorem d_Mo_wrong_1 : decode prog_13_method_47_code 1 = .ok (.getfield 194, 3) := by decide +kernel
theorem d_Mo_wrong_4 : decode prog_13_method_47_code 4 = .ok (.ifCond .ne 13, 3) := by decide +kernel
theorem d_Mo_wrong_7 : decode prog_13_method_47_code 7 = .ok (.aload_n 0, 1) := by decide +kernel
theorem d_Mo_wrong_8 : decode prog_13_method_47_code 8 = .ok (.iload_n 1, 1) := by decide +kernel
theorem d_Mo_wrong_9 : decode prog_13_method_47_code 9 = .ok (.putfield 194, 3) := by decide +kernel
theorem d_Mo_wrong_12 : decode prog_13_method_47_code 12 = .ok (.aload_n 0, 1) := by decide +kernel
theorem d_Mo_wrong_13 : decode prog_13_method_47_code 13 = .ok (.iload_n 2, 1) := by decide +kernel
theorem d_Mo_wrong_14 : decode prog_13_method_47_code 14 = .ok (.putfield 63, 3) := by decide +kernel
theorem d_Mo_wrong_17 : decode prog_13_method_47_code 17 = .ok (.iconst 0, 1) := by decide +kernel
theorem d_Mo_wrong_18 : decode prog_13_method_47_code 18 = .ok (.ireturn, 1) := by decide +kernel
theorem d_Mo_get_0 : decode prog_13_method_48_code 0 = .ok (.aload_n 0, 1) := by decide +kernel
theorem d_Mo_get_1 : decode prog_13_method_48_code 1 = .ok (.getfield 194, 3) := by decide +kernel
theorem d_Mo_get_4 : decode prog_13_method_48_code 4 = .ok (.ifCond .eq 5, 3) := by decide +kernel
theorem d_Mo_get_7 : decode prog_13_method_48_code 7 = .ok (.lconst 0, 1) := by decide +kernel
theorem d_Mo_get_8 : decode prog_13_method_48_code 8 = .ok (.lreturn, 1) := by decide +kernel
theorem d_Mo_get_9 : decode prog_13_method_48_code 9 = .ok (.aload_n 0, 1) := by decide +kernel
theorem d_Mo_get_10 : decode prog_13_method_48_code 10 = .ok (.getfield 197, 3) := by decide +kernel
theorem d_Mo_get_13 : decode prog_13_method_48_code 13 = .ok (.iload_n 1, 1) := by decide +kernel
theorem d_Mo_get_14 : decode prog_13_method_48_code 14 = .ok (.iadd, 1) := by decide +kernel
theorem d_Mo_get_15 : decode prog_13_method_48_code 15 = .ok (.bipush 8, 2) := by decide +kernel
theorem d_Mo_get_17 : decode prog_13_method_48_code 17 = .ok (.aload_n 0, 1) := by decide +kernel
theorem d_Mo_get_18 : decode prog_13_method_48_code 18 = .ok (.getfield 191, 3) := by decide +kernel
theorem d_Mo_get_21 : decode prog_13_method_48_code 21 = .ok (.imul, 1) := by decide +kernel
theorem d_Mo_get_22 : decode prog_13_method_48_code 22 = .ok (.if_icmp .le 15, 3) := by decide +kernel
theorem d_Mo_get_25 : decode prog_13_method_48_code 25 = .ok (.aload_n 0, 1) := by decide +kernel
theorem d_Mo_get_26 : decode prog_13_method_48_code 26 = .ok (.iconst 1, 1) := by decide +kernel
theorem d_Mo_get_27 : decode prog_13_method_48_code 27 = .ok (.aload_n 0, 1) := by decide +kernel
theorem d_Mo_get_28 : decode prog_13_method_48_code 28 = .ok (.getfield 191, 3) := by decide +kernel
theorem d_Mo_get_31 : decode prog_13_method_48_code 31 = .ok (.invokevirtual 200, 3) := by decide +kernel
theorem d_Mo_get_34 : decode prog_13_method_48_code 34 = .ok (.pop, 1) := by decide +kernel
theorem d_Mo_get_35 : decode prog_13_method_48_code 35 = .ok (.lconst 0, 1) := by decide +kernel
theorem d_Mo_get_36 : decode prog_13_method_48_code 36 = .ok (.lreturn, 1) := by decide +kernel
theorem d_Mo_get_37 : decode prog_13_method_48_code 37 = .ok (.lconst 0, 1) := by decide +kernel
theorem d_Mo_get_38 : decode prog_13_method_48_code 38 = .ok (.lstore_n 2, 1) := by decide +kernel
theorem d_Mo_get_39 : decode prog_13_method_48_code 39 = .ok (.iconst 0, 1) := by decide +kernel
theorem d_Mo_get_40 : decode prog_13_method_48_code 40 = .ok (.istore 4, 2) := by decide +kernel
theorem d_Mo_get_42 : decode prog_13_method_48_code 42 = .ok (.iload 4, 2) := by decide +kernel
theorem d_Mo_get_44 : decode prog_13_method_48_code 44 = .ok (.iload_n 1, 1) := by decide +kernel
theorem d_Mo_get_45 : decode prog_13_method_48_code 45 = .ok (.if_icmp .ge 50, 3) := by decide +kernel
theorem d_Mo_get_48 : decode prog_13_method_48_code 48 = .ok (.lload_n 2, 1) := by decide +kernel
theorem d_Mo_get_49 : decode prog_13_method_48_code 49 = .ok (.iconst 1, 1) := by decide +kernel
theorem d_Mo_get_50 : decode prog_13_method_48_code 50 = .ok (.lshl, 1) := by decide +kernel
theorem d_Mo_get_51 : decode prog_13_method_48_code 51 = .ok (.aload_n 0, 1) := by decide +kernel
theorem d_Mo_get_52 : decode prog_13_method_48_code 52 = .ok (.getfield 60, 3) := by decide +kernel
theorem d_Mo_get_55 : decode prog_13_method_48_code 55 = .ok (.aload_n 0, 1) := by decide +kernel
theorem d_Mo_get_56 : decode prog_13_method_48_code 56 = .ok (.getfield 197, 3) := by decide +kernel
theorem d_Mo_get_59 : decode prog_13_method_48_code 59 = .ok (.bipush 8, 2) := by decide +kernel
theorem d_Mo_get_61 : decode prog_13_method_48_code 61 = .ok (.idiv, 1) := by decide +kernel
theorem d_Mo_get_62 : decode prog_13_method_48_code 62 = .ok (.baload, 1) := by decide +kernel
theorem d_Mo_get_63 : decode prog_13_method_48_code 63 = .ok (.bipush 7, 2) := by decide +kernel
theorem d_Mo_get_65 : decode prog_13_method_48_code 65 = .ok (.aload_n 0, 1) := by decide +kernel
theorem d_Mo_get_66 : decode prog_13_method_48_code 66 = .ok (.getfield 197, 3) := by decide +kernel
theorem d_Mo_get_69 : decode prog_13_method_48_code 69 = .ok (.bipush 8, 2) := by decide +kernel
theorem d_Mo_get_71 : decode prog_13_method_48_code 71 = .ok (.irem, 1) := by decide +kernel
theorem d_Mo_get_72 : decode prog_13_method_48_code 72 = .ok (.isub, 1) := by decide +kernel
theorem d_Mo_get_73 : decode prog_13_method_48_code 73 = .ok (.ishr, 1) := by decide +kernel
theorem d_Mo_get_74 : decode prog_13_method_48_code 74 = .ok (.iconst 1, 1) := by decide +kernel
theorem d_Mo_get_75 : decode prog_13_method_48_code 75 = .ok (.iand, 1) := by decide +kernel
theorem d_Mo_get_76 : decode prog_13_method_48_code 76 = .ok (.i2l, 1) := by decide +kernel
theorem d_Mo_get_77 : decode prog_13_method_48_code 77 = .ok (.lor, 1) := by decide +kernel
theorem d_Mo_get_78 : decode prog_13_method_48_code 78 = .ok (.lstore_n 2, 1) := by decide +kernel
theorem d_Mo_get_79 : decode prog_13_method_48_code 79 = .ok (.aload_n 0, 1) := by decide +kernel
theorem d_Mo_get_80 : decode prog_13_method_48_code 80 = .ok (.dup, 1) := by decide +kernel
theorem d_Mo_get_81 : decode prog_13_method_48_code 81 = .ok (.getfield 197, 3) := by decide +kernel
theorem d_Mo_get_84 : decode prog_13_method_48_code 84 = .ok (.iconst 1, 1) := by decide +kernel
theorem d_Mo_get_85 : decode prog_13_method_48_code 85 = .ok (.iadd, 1) := by decide +kernel
theorem d_Mo_get_86 : decode prog_13_method_48_code 86 = .ok (.putfield 197, 3) := by decide +kernel
theorem d_Mo_get_89 : decode prog_13_method_48_code 89 = .ok (.iinc 4 1, 3) := by decide +kernel
theorem d_Mo_get_92 : decode prog_13_method_48_code 92 = .ok (.goto (-50), 3) := by decide +kernel
theorem d_Mo_get_95 : decode prog_13_method_48_code 95 = .ok (.lload_n 2, 1) := by decide +kernel
theorem d_Mo_get_96 : decode prog_13_method_48_code 96 = .ok (.lreturn, 1) := by decide +kernel
theorem d_Mo_readsList_0 : decode prog_13_method_49_code 0 = .ok (.aload_n 0, 1) := by decide +kernel
theorem d_Mo_readsList_1 : decode prog_13_method_49_code 1 = .ok (.getfield 197, 3) := by decide +kernel
theorem d_Mo_readsList_4 : decode prog_13_method_49_code 4 = .ok (.bipush 8, 2) := by decide +kernel
theorem d_Mo_readsList_6 : decode prog_13_method_49_code 6 = .ok (.idiv, 1) := by decide +kernel
theorem d_Mo_readsList_7 : decode prog_13_method_49_code 7 = .ok (.istore_n 1, 1) := by decide +kernel
theorem d_Mo_readsList_8 : decode prog_13_method_49_code 8 = .ok (.aload_n 0, 1) := by decide +kernel
theorem d_Mo_readsList_9 : decode prog_13_method_49_code 9 = .ok (.bipush 16, 2) := by decide +kernel
theorem d_Mo_readsList_11 : decode prog_13_method_49_code 11 = .ok (.invokevirtual 203, 3) := by decide +kernel
theorem d_Mo_readsList_14 : decode prog_13_method_49_code 14 = .ok (.lstore_n 2, 1) := by decide +kernel
theorem d_Mo_readsList_15 : decode prog_13_method_49_code 15 = .ok (.aload_n 0, 1) := by decide +kernel
theorem d_Mo_readsList_16 : decode prog_13_method_49_code 16 = .ok (.getfield 194, 3) := by decide +kernel
theorem d_Mo_readsList_19 : decode prog_13_method_49_code 19 = .ok (.ifCond .eq 5, 3) := by decide +kernel
theorem d_Mo_readsList_22 : decode prog_13_method_49_code 22 = .ok (.iconst 0, 1) := by decide +kernel
theorem d_Mo_readsList_23 : decode prog_13_method_49_code 23 = .ok (.ireturn, 1) := by decide +kernel
theorem d_Mo_readsList_24 : decode prog_13_method_49_code 24 = .ok (.lload_n 2, 1) := by decide +kernel
theorem d_Mo_readsList_25 : decode prog_13_method_49_code 25 = .ok (.lconst 0, 1) := by decide +kernel
theorem d_Mo_readsList_26 : decode prog_13_method_49_code 26 = .ok (.lcmp, 1) := by decide +kernel
theorem d_Mo_readsList_27 : decode prog_13_method_49_code 27 = .ok (.ifCond .ne 10, 3) := by decide +kernel
theorem d_Mo_readsList_30 : decode prog_13_method_49_code 30 = .ok (.aload_n 0, 1) := by decide +kernel
theorem d_Mo_readsList_31 : decode prog_13_method_49_code 31 = .ok (.iconst 5, 1) := by decide +kernel
theorem d_Mo_readsList_32 : decode prog_13_method_49_code 32 = .ok (.iload_n 1, 1) := by decide +kernel
theorem d_Mo_readsList_33 : decode prog_13_method_49_code 33 = .ok (.invokevirtual 200, 3) := by decide +kernel
theorem d_Mo_readsList_36 : decode prog_13_method_49_code 36 = .ok (.ireturn, 1) := by decide +kernel
theorem d_Mo_readsList_37 : decode prog_13_method_49_code 37 = .ok (.aload_n 0, 1) := by decide +kernel
theorem d_Mo_readsList_38 : decode prog_13_method_49_code 38 = .ok (.iconst 0, 1) := by decide +kernel
theorem d_Mo_readsList_39 : decode prog_13_method_49_code 39 = .ok (.putfield 138, 3) := by decide +kernel
theorem d_Mo_readsList_42 : decode prog_13_method_49_code 42 = .ok (.iconst 0, 1) := by decide +kernel
theorem d_Mo_readsList_43 : decode prog_13_method_49_code 43 = .ok (.istore 4, 2) := by decide +kernel
theorem d_Mo_readsList_45 : decode prog_13_method_49_code 45 = .ok (.iload 4, 2) := by decide +kernel
theorem d_Mo_readsList_47 : decode prog_13_method_49_code 47 = .ok (.bipush 16, 2) := by decide +kernel
theorem d_Mo_readsList_49 : decode prog_13_method_49_code 49 = .ok (.if_icmp .ge 120, 3) := by decide +kernel
theorem d_Mo_readsList_52 : decode prog_13_method_49_code 52 = .ok (.lload_n 2, 1) := by decide +kernel
theorem d_Mo_readsList_53 : decode prog_13_method_49_code 53 = .ok (.bipush 15, 2) := by decide +kernel
theorem d_Mo_readsList_55 : decode prog_13_method_49_code 55 = .ok (.iload 4, 2) := by decide +kernel
theorem d_Mo_readsList_57 : decode prog_13_method_49_code 57 = .ok (.isub, 1) := by decide +kernel
theorem d_Mo_readsList_58 : decode prog_13_method_49_code 58 = .ok (.lshr, 1) := by decide +kernel
theorem d_Mo_readsList_59 : decode prog_13_method_49_code 59 = .ok (.lconst 1, 1) := by decide +kernel
theorem d_Mo_readsList_60 : decode prog_13_method_49_code 60 = .ok (.land, 1) := by decide +kernel
theorem d_Mo_readsList_61 : decode prog_13_method_49_code 61 = .ok (.lconst 0, 1) := by decide +kernel
theorem d_Mo_readsList_62 : decode prog_13_method_49_code 62 = .ok (.lcmp, 1) := by decide +kernel
theorem d_Mo_readsList_63 : decode prog_13_method_49_code 63 = .ok (.ifCond .ne 6, 3) := by decide +kernel
theorem d_Mo_readsList_66 : decode prog_13_method_49_code 66 = .ok (.goto 97, 3) := by decide +kernel
theorem d_Mo_readsList_69 : decode prog_13_method_49_code 69 = .ok (.aload_n 0, 1) := by decide +kernel
theorem d_Mo_readsList_70 : decode prog_13_method_49_code 70 = .ok (.getfield 197, 3) := by decide +kernel
theorem d_Mo_readsList_73 : decode prog_13_method_49_code 73 = .ok (.bipush 8, 2) := by decide +kernel
theorem d_Mo_readsList_75 : decode prog_13_method_49_code 75 = .ok (.idiv, 1) := by decide +kernel
theorem d_Mo_readsList_76 : decode prog_13_method_49_code 76 = .ok (.istore_n 1, 1) := by decide +kernel
theorem d_Mo_readsList_77 : decode prog_13_method_49_code 77 = .ok (.aload_n 0, 1) := by decide +kernel
theorem d_Mo_readsList_78 : decode prog_13_method_49_code 78 = .ok (.bipush 16, 2) := by decide +kernel
theorem d_Mo_readsList_80 : decode prog_13_method_49_code 80 = .ok (.invokevirtual 203, 3) := by decide +kernel
theorem d_Mo_readsList_83 : decode prog_13_method_49_code 83 = .ok (.lstore 5, 2) := by decide +kernel
theorem d_Mo_readsList_85 : decode prog_13_method_49_code 85 = .ok (.aload_n 0, 1) := by decide +kernel
theorem d_Mo_readsList_86 : decode prog_13_method_49_code 86 = .ok (.getfield 194, 3) := by decide +kernel
theorem d_Mo_readsList_89 : decode prog_13_method_49_code 89 = .ok (.ifCond .eq 5, 3) := by decide +kernel
theorem d_Mo_readsList_92 : decode prog_13_method_49_code 92 = .ok (.iconst 0, 1) := by decide +kernel
theorem d_Mo_readsList_93 : decode prog_13_method_49_code 93 = .ok (.ireturn, 1) := by decide +kernel
theorem d_Mo_readsList_94 : decode prog_13_method_49_code 94 = .ok (.lload 5, 2) := by decide +kernel
theorem d_Mo_readsList_96 : decode prog_13_method_49_code 96 = .ok (.lconst 0, 1) := by decide +kernel
theorem d_Mo_readsList_97 : decode prog_13_method_49_code 97 = .ok (.lcmp, 1) := by decide +kernel
theorem d_Mo_readsList_98 : decode prog_13_method_49_code 98 = .ok (.ifCond .ne 10, 3) := by decide +kernel
theorem d_Mo_readsList_101 : decode prog_13_method_49_code 101 = .ok (.aload_n 0, 1) := by decide +kernel
theorem d_Mo_readsList_102 : decode prog_13_method_49_code 102 = .ok (.iconst 5, 1) := by decide +kernel
theorem d_Mo_readsList_103 : decode prog_13_method_49_code 103 = .ok (.iload_n 1, 1) := by decide +kernel
theorem d_Mo_readsList_104 : decode prog_13_method_49_code 104 = .ok (.invokevirtual 200, 3) := by decide +kernel
theorem d_Mo_readsList_107 : decode prog_13_method_49_code 107 = .ok (.ireturn, 1) := by decide +kernel
theorem d_Mo_readsList_108 : decode prog_13_method_49_code 108 = .ok (.iconst 0, 1) := by decide +kernel
theorem d_Mo_readsList_109 : decode prog_13_method_49_code 109 = .ok (.istore 7, 2) := by decide +kernel
theorem d_Mo_readsList_111 : decode prog_13_method_49_code 111 = .ok (.iload 7, 2) := by decide +kernel
theorem d_Mo_readsList_113 : decode prog_13_method_49_code 113 = .ok (.bipush 16, 2) := by decide +kernel
theorem d_Mo_readsList_115 : decode prog_13_method_49_code 115 = .ok (.if_icmp .ge 48, 3) := by decide +kernel
theorem d_Mo_readsList_118 : decode prog_13_method_49_code 118 = .ok (.lload 5, 2) := by decide +kernel
theorem d_Mo_readsList_120 : decode prog_13_method_49_code 120 = .ok (.bipush 15, 2) := by decide +kernel
theorem d_Mo_readsList_122 : decode prog_13_method_49_code 122 = .ok (.iload 7, 2) := by decide +kernel
theorem d_Mo_readsList_124 : decode prog_13_method_49_code 124 = .ok (.isub, 1) := by decide +kernel
theorem d_Mo_readsList_125 : decode prog_13_method_49_code 125 = .ok (.lshr, 1) := by decide +kernel
theorem d_Mo_readsList_126 : decode prog_13_method_49_code 126 = .ok (.lconst 1, 1) := by decide +kernel
theorem d_Mo_readsList_127 : decode prog_13_method_49_code 127 = .ok (.land, 1) := by decide +kernel
theorem d_Mo_readsList_128 : decode prog_13_method_49_code 128 = .ok (.lconst 1, 1) := by decide +kernel
theorem d_Mo_readsList_129 : decode prog_13_method_49_code 129 = .ok (.lcmp, 1) := by decide +kernel
theorem d_Mo_readsList_130 : decode prog_13_method_49_code 130 = .ok (.ifCond .ne 27, 3) := by decide +kernel
theorem d_Mo_readsList_133 : decode prog_13_method_49_code 133 = .ok (.aload_n 0, 1) := by decide +kernel
theorem d_Mo_readsList_134 : decode prog_13_method_49_code 134 = .ok (.getfield 31, 3) := by decide +kernel
theorem d_Mo_readsList_137 : decode prog_13_method_49_code 137 = .ok (.aload_n 0, 1) := by decide +kernel
theorem d_Mo_readsList_138 : decode prog_13_method_49_code 138 = .ok (.dup, 1) := by decide +kernel
theorem d_Mo_readsList_139 : decode prog_13_method_49_code 139 = .ok (.getfield 138, 3) := by decide +kernel
theorem d_Mo_readsList_142 : decode prog_13_method_49_code 142 = .ok (.dup_x1, 1) := by decide +kernel
theorem d_Mo_readsList_143 : decode prog_13_method_49_code 143 = .ok (.iconst 1, 1) := by decide +kernel
theorem d_Mo_readsList_144 : decode prog_13_method_49_code 144 = .ok (.iadd, 1) := by decide +kernel
theorem d_Mo_readsList_145 : decode prog_13_method_49_code 145 = .ok (.putfield 138, 3) := by decide +kernel
theorem d_Mo_readsList_148 : decode prog_13_method_49_code 148 = .ok (.bipush 16, 2) := by decide +kernel
theorem d_Mo_readsList_150 : decode prog_13_method_49_code 150 = .ok (.iload 4, 2) := by decide +kernel
theorem d_Mo_readsList_152 : decode prog_13_method_49_code 152 = .ok (.imul, 1) := by decide +kernel
theorem d_Mo_readsList_153 : decode prog_13_method_49_code 153 = .ok (.iload 7, 2) := by decide +kernel
theorem d_Mo_readsList_155 : decode prog_13_method_49_code 155 = .ok (.iadd, 1) := by decide +kernel
theorem d_Mo_readsList_156 : decode prog_13_method_49_code 156 = .ok (.iastore, 1) := by decide +kernel
theorem d_Mo_readsList_157 : decode prog_13_method_49_code 157 = .ok (.iinc 7 1, 3) := by decide +kernel
theorem d_Mo_readsList_160 : decode prog_13_method_49_code 160 = .ok (.goto (-49), 3) := by decide +kernel
theorem d_Mo_readsList_163 : decode prog_13_method_49_code 163 = .ok (.iinc 4 1, 3) := by decide +kernel
theorem d_Mo_readsList_166 : decode prog_13_method_49_code 166 = .ok (.goto (-121), 3) := by decide +kernel
theorem d_Mo_readsList_169 : decode prog_13_method_49_code 169 = .ok (.iconst 1, 1) := by decide +kernel
theorem d_Mo_readsList_170 : decode prog_13_method_49_code 170 = .ok (.ireturn, 1) := by decide +kernel

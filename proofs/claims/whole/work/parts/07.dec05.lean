theorem d_Mo_readsLengths_0 : decode prog_13_method_50_code 0 = .ok (.aload_n 0, 1) := by decide +kernel
theorem d_Mo_readsLengths_1 : decode prog_13_method_50_code 1 = .ok (.getfield 197, 3) := by decide +kernel
theorem d_Mo_readsLengths_4 : decode prog_13_method_50_code 4 = .ok (.bipush 8, 2) := by decide +kernel
theorem d_Mo_readsLengths_6 : decode prog_13_method_50_code 6 = .ok (.idiv, 1) := by decide +kernel
theorem d_Mo_readsLengths_7 : decode prog_13_method_50_code 7 = .ok (.istore_n 1, 1) := by decide +kernel
theorem d_Mo_readsLengths_8 : decode prog_13_method_50_code 8 = .ok (.aload_n 0, 1) := by decide +kernel
theorem d_Mo_readsLengths_9 : decode prog_13_method_50_code 9 = .ok (.iconst 4, 1) := by decide +kernel
theorem d_Mo_readsLengths_10 : decode prog_13_method_50_code 10 = .ok (.invokevirtual 203, 3) := by decide +kernel
theorem d_Mo_readsLengths_13 : decode prog_13_method_50_code 13 = .ok (.l2i, 1) := by decide +kernel
theorem d_Mo_readsLengths_14 : decode prog_13_method_50_code 14 = .ok (.istore_n 2, 1) := by decide +kernel
theorem d_Mo_readsLengths_15 : decode prog_13_method_50_code 15 = .ok (.aload_n 0, 1) := by decide +kernel
theorem d_Mo_readsLengths_16 : decode prog_13_method_50_code 16 = .ok (.getfield 194, 3) := by decide +kernel
theorem d_Mo_readsLengths_19 : decode prog_13_method_50_code 19 = .ok (.ifCond .eq 5, 3) := by decide +kernel
theorem d_Mo_readsLengths_22 : decode prog_13_method_50_code 22 = .ok (.iconst 0, 1) := by decide +kernel
theorem d_Mo_readsLengths_23 : decode prog_13_method_50_code 23 = .ok (.ireturn, 1) := by decide +kernel
theorem d_Mo_readsLengths_24 : decode prog_13_method_50_code 24 = .ok (.iload_n 2, 1) := by decide +kernel
theorem d_Mo_readsLengths_25 : decode prog_13_method_50_code 25 = .ok (.i2l, 1) := by decide +kernel
theorem d_Mo_readsLengths_26 : decode prog_13_method_50_code 26 = .ok (.lconst 1, 1) := by decide +kernel
theorem d_Mo_readsLengths_27 : decode prog_13_method_50_code 27 = .ok (.ldc2_w 207, 3) := by decide +kernel
theorem d_Mo_readsLengths_30 : decode prog_13_method_50_code 30 = .ok (.invokestatic 72, 3) := by decide +kernel
theorem d_Mo_readsLengths_33 : decode prog_13_method_50_code 33 = .ok (.ifCond .ne 11, 3) := by decide +kernel
theorem d_Mo_readsLengths_36 : decode prog_13_method_50_code 36 = .ok (.aload_n 0, 1) := by decide +kernel
theorem d_Mo_readsLengths_37 : decode prog_13_method_50_code 37 = .ok (.bipush 6, 2) := by decide +kernel
theorem d_Mo_readsLengths_39 : decode prog_13_method_50_code 39 = .ok (.iload_n 1, 1) := by decide +kernel
theorem d_Mo_readsLengths_40 : decode prog_13_method_50_code 40 = .ok (.invokevirtual 200, 3) := by decide +kernel
theorem d_Mo_readsLengths_43 : decode prog_13_method_50_code 43 = .ok (.ireturn, 1) := by decide +kernel
theorem d_Mo_readsLengths_44 : decode prog_13_method_50_code 44 = .ok (.aload_n 0, 1) := by decide +kernel
theorem d_Mo_readsLengths_45 : decode prog_13_method_50_code 45 = .ok (.getfield 138, 3) := by decide +kernel
theorem d_Mo_readsLengths_48 : decode prog_13_method_50_code 48 = .ok (.iconst 2, 1) := by decide +kernel
theorem d_Mo_readsLengths_49 : decode prog_13_method_50_code 49 = .ok (.iadd, 1) := by decide +kernel
theorem d_Mo_readsLengths_50 : decode prog_13_method_50_code 50 = .ok (.istore_n 3, 1) := by decide +kernel
theorem d_Mo_readsLengths_51 : decode prog_13_method_50_code 51 = .ok (.lconst 0, 1) := by decide +kernel
theorem d_Mo_readsLengths_52 : decode prog_13_method_50_code 52 = .ok (.lstore 4, 2) := by decide +kernel
theorem d_Mo_readsLengths_54 : decode prog_13_method_50_code 54 = .ok (.iconst 0, 1) := by decide +kernel
theorem d_Mo_readsLengths_55 : decode prog_13_method_50_code 55 = .ok (.istore 6, 2) := by decide +kernel
theorem d_Mo_readsLengths_57 : decode prog_13_method_50_code 57 = .ok (.iload 6, 2) := by decide +kernel
theorem d_Mo_readsLengths_59 : decode prog_13_method_50_code 59 = .ok (.iload_n 3, 1) := by decide +kernel
theorem d_Mo_readsLengths_60 : decode prog_13_method_50_code 60 = .ok (.if_icmp .ge 108, 3) := by decide +kernel
theorem d_Mo_readsLengths_63 : decode prog_13_method_50_code 63 = .ok (.aload_n 0, 1) := by decide +kernel
theorem d_Mo_readsLengths_64 : decode prog_13_method_50_code 64 = .ok (.getfield 197, 3) := by decide +kernel
theorem d_Mo_readsLengths_67 : decode prog_13_method_50_code 67 = .ok (.bipush 8, 2) := by decide +kernel
theorem d_Mo_readsLengths_69 : decode prog_13_method_50_code 69 = .ok (.idiv, 1) := by decide +kernel
theorem d_Mo_readsLengths_70 : decode prog_13_method_50_code 70 = .ok (.istore 7, 2) := by decide +kernel
theorem d_Mo_readsLengths_72 : decode prog_13_method_50_code 72 = .ok (.aload_n 0, 1) := by decide +kernel
theorem d_Mo_readsLengths_73 : decode prog_13_method_50_code 73 = .ok (.iconst 1, 1) := by decide +kernel
theorem d_Mo_readsLengths_74 : decode prog_13_method_50_code 74 = .ok (.invokevirtual 203, 3) := by decide +kernel
theorem d_Mo_readsLengths_77 : decode prog_13_method_50_code 77 = .ok (.lconst 1, 1) := by decide +kernel
theorem d_Mo_readsLengths_78 : decode prog_13_method_50_code 78 = .ok (.lcmp, 1) := by decide +kernel
theorem d_Mo_readsLengths_79 : decode prog_13_method_50_code 79 = .ok (.ifCond .ne 56, 3) := by decide +kernel
theorem d_Mo_readsLengths_82 : decode prog_13_method_50_code 82 = .ok (.aload_n 0, 1) := by decide +kernel
theorem d_Mo_readsLengths_83 : decode prog_13_method_50_code 83 = .ok (.getfield 194, 3) := by decide +kernel
theorem d_Mo_readsLengths_86 : decode prog_13_method_50_code 86 = .ok (.ifCond .ne 49, 3) := by decide +kernel
theorem d_Mo_readsLengths_89 : decode prog_13_method_50_code 89 = .ok (.iload_n 2, 1) := by decide +kernel
theorem d_Mo_readsLengths_90 : decode prog_13_method_50_code 90 = .ok (.aload_n 0, 1) := by decide +kernel
theorem d_Mo_readsLengths_91 : decode prog_13_method_50_code 91 = .ok (.iconst 1, 1) := by decide +kernel
theorem d_Mo_readsLengths_92 : decode prog_13_method_50_code 92 = .ok (.invokevirtual 203, 3) := by decide +kernel
theorem d_Mo_readsLengths_95 : decode prog_13_method_50_code 95 = .ok (.lconst 0, 1) := by decide +kernel
theorem d_Mo_readsLengths_96 : decode prog_13_method_50_code 96 = .ok (.lcmp, 1) := by decide +kernel
theorem d_Mo_readsLengths_97 : decode prog_13_method_50_code 97 = .ok (.ifCond .ne 7, 3) := by decide +kernel
theorem d_Mo_readsLengths_100 : decode prog_13_method_50_code 100 = .ok (.iconst 1, 1) := by decide +kernel
theorem d_Mo_readsLengths_101 : decode prog_13_method_50_code 101 = .ok (.goto 4, 3) := by decide +kernel
theorem d_Mo_readsLengths_104 : decode prog_13_method_50_code 104 = .ok (.iconst (-1), 1) := by decide +kernel
theorem d_Mo_readsLengths_105 : decode prog_13_method_50_code 105 = .ok (.iadd, 1) := by decide +kernel
theorem d_Mo_readsLengths_106 : decode prog_13_method_50_code 106 = .ok (.istore_n 2, 1) := by decide +kernel
theorem d_Mo_readsLengths_107 : decode prog_13_method_50_code 107 = .ok (.aload_n 0, 1) := by decide +kernel
theorem d_Mo_readsLengths_108 : decode prog_13_method_50_code 108 = .ok (.getfield 194, 3) := by decide +kernel
theorem d_Mo_readsLengths_111 : decode prog_13_method_50_code 111 = .ok (.ifCond .ne (-39), 3) := by decide +kernel
theorem d_Mo_readsLengths_114 : decode prog_13_method_50_code 114 = .ok (.iload_n 2, 1) := by decide +kernel
theorem d_Mo_readsLengths_115 : decode prog_13_method_50_code 115 = .ok (.i2l, 1) := by decide +kernel
theorem d_Mo_readsLengths_116 : decode prog_13_method_50_code 116 = .ok (.lconst 1, 1) := by decide +kernel
theorem d_Mo_readsLengths_117 : decode prog_13_method_50_code 117 = .ok (.ldc2_w 207, 3) := by decide +kernel
theorem d_Mo_readsLengths_120 : decode prog_13_method_50_code 120 = .ok (.invokestatic 72, 3) := by decide +kernel
theorem d_Mo_readsLengths_123 : decode prog_13_method_50_code 123 = .ok (.ifCond .ne (-51), 3) := by decide +kernel
theorem d_Mo_readsLengths_126 : decode prog_13_method_50_code 126 = .ok (.aload_n 0, 1) := by decide +kernel
theorem d_Mo_readsLengths_127 : decode prog_13_method_50_code 127 = .ok (.bipush 6, 2) := by decide +kernel
theorem d_Mo_readsLengths_129 : decode prog_13_method_50_code 129 = .ok (.iload 7, 2) := by decide +kernel
theorem d_Mo_readsLengths_131 : decode prog_13_method_50_code 131 = .ok (.invokevirtual 200, 3) := by decide +kernel
theorem d_Mo_readsLengths_134 : decode prog_13_method_50_code 134 = .ok (.ireturn, 1) := by decide +kernel
theorem d_Mo_readsLengths_135 : decode prog_13_method_50_code 135 = .ok (.aload_n 0, 1) := by decide +kernel
theorem d_Mo_readsLengths_136 : decode prog_13_method_50_code 136 = .ok (.getfield 194, 3) := by decide +kernel
theorem d_Mo_readsLengths_139 : decode prog_13_method_50_code 139 = .ok (.ifCond .eq 5, 3) := by decide +kernel
theorem d_Mo_readsLengths_142 : decode prog_13_method_50_code 142 = .ok (.iconst 0, 1) := by decide +kernel
theorem d_Mo_readsLengths_143 : decode prog_13_method_50_code 143 = .ok (.ireturn, 1) := by decide +kernel
theorem d_Mo_readsLengths_144 : decode prog_13_method_50_code 144 = .ok (.aload_n 0, 1) := by decide +kernel
theorem d_Mo_readsLengths_145 : decode prog_13_method_50_code 145 = .ok (.getfield 37, 3) := by decide +kernel
theorem d_Mo_readsLengths_148 : decode prog_13_method_50_code 148 = .ok (.iload 6, 2) := by decide +kernel
theorem d_Mo_readsLengths_150 : decode prog_13_method_50_code 150 = .ok (.iload_n 2, 1) := by decide +kernel
theorem d_Mo_readsLengths_151 : decode prog_13_method_50_code 151 = .ok (.iastore, 1) := by decide +kernel
theorem d_Mo_readsLengths_152 : decode prog_13_method_50_code 152 = .ok (.lload 4, 2) := by decide +kernel
theorem d_Mo_readsLengths_154 : decode prog_13_method_50_code 154 = .ok (.ldc2_w 209, 3) := by decide +kernel
theorem d_Mo_readsLengths_157 : decode prog_13_method_50_code 157 = .ok (.iload_n 2, 1) := by decide +kernel
theorem d_Mo_readsLengths_158 : decode prog_13_method_50_code 158 = .ok (.lshr, 1) := by decide +kernel
theorem d_Mo_readsLengths_159 : decode prog_13_method_50_code 159 = .ok (.ladd, 1) := by decide +kernel
theorem d_Mo_readsLengths_160 : decode prog_13_method_50_code 160 = .ok (.lstore 4, 2) := by decide +kernel
theorem d_Mo_readsLengths_162 : decode prog_13_method_50_code 162 = .ok (.iinc 6 1, 3) := by decide +kernel
theorem d_Mo_readsLengths_165 : decode prog_13_method_50_code 165 = .ok (.goto (-108), 3) := by decide +kernel
theorem d_Mo_readsLengths_168 : decode prog_13_method_50_code 168 = .ok (.lload 4, 2) := by decide +kernel
theorem d_Mo_readsLengths_170 : decode prog_13_method_50_code 170 = .ok (.ldc2_w 209, 3) := by decide +kernel
theorem d_Mo_readsLengths_173 : decode prog_13_method_50_code 173 = .ok (.lcmp, 1) := by decide +kernel
theorem d_Mo_readsLengths_174 : decode prog_13_method_50_code 174 = .ok (.ifCond .eq 11, 3) := by decide +kernel
theorem d_Mo_readsLengths_177 : decode prog_13_method_50_code 177 = .ok (.aload_n 0, 1) := by decide +kernel
theorem d_Mo_readsLengths_178 : decode prog_13_method_50_code 178 = .ok (.bipush 7, 2) := by decide +kernel
theorem d_Mo_readsLengths_180 : decode prog_13_method_50_code 180 = .ok (.iload_n 1, 1) := by decide +kernel
theorem d_Mo_readsLengths_181 : decode prog_13_method_50_code 181 = .ok (.invokevirtual 200, 3) := by decide +kernel
theorem d_Mo_readsLengths_184 : decode prog_13_method_50_code 184 = .ok (.ireturn, 1) := by decide +kernel
theorem d_Mo_readsLengths_185 : decode prog_13_method_50_code 185 = .ok (.aload_n 0, 1) := by decide +kernel
theorem d_Mo_readsLengths_186 : decode prog_13_method_50_code 186 = .ok (.iload_n 3, 1) := by decide +kernel
theorem d_Mo_readsLengths_187 : decode prog_13_method_50_code 187 = .ok (.invokevirtual 154, 3) := by decide +kernel
theorem d_Mo_readsLengths_190 : decode prog_13_method_50_code 190 = .ok (.iconst 1, 1) := by decide +kernel
theorem d_Mo_readsLengths_191 : decode prog_13_method_50_code 191 = .ok (.ireturn, 1) := by decide +kernel
theorem d_Mo_readsSymbol_0 : decode prog_13_method_51_code 0 = .ok (.iconst 0, 1) := by decide +kernel
theorem d_Mo_readsSymbol_1 : decode prog_13_method_51_code 1 = .ok (.istore_n 1, 1) := by decide +kernel
theorem d_Mo_readsSymbol_2 : decode prog_13_method_51_code 2 = .ok (.iconst 1, 1) := by decide +kernel
theorem d_Mo_readsSymbol_3 : decode prog_13_method_51_code 3 = .ok (.istore_n 2, 1) := by decide +kernel
theorem d_Mo_readsSymbol_4 : decode prog_13_method_51_code 4 = .ok (.iload_n 2, 1) := by decide +kernel
theorem d_Mo_readsSymbol_5 : decode prog_13_method_51_code 5 = .ok (.bipush 12, 2) := by decide +kernel
theorem d_Mo_readsSymbol_7 : decode prog_13_method_51_code 7 = .ok (.if_icmp .gt 69, 3) := by decide +kernel
theorem d_Mo_readsSymbol_10 : decode prog_13_method_51_code 10 = .ok (.iload_n 1, 1) := by decide +kernel
theorem d_Mo_readsSymbol_11 : decode prog_13_method_51_code 11 = .ok (.iconst 1, 1) := by decide +kernel
theorem d_Mo_readsSymbol_12 : decode prog_13_method_51_code 12 = .ok (.ishl, 1) := by decide +kernel
theorem d_Mo_readsSymbol_13 : decode prog_13_method_51_code 13 = .ok (.aload_n 0, 1) := by decide +kernel
theorem d_Mo_readsSymbol_14 : decode prog_13_method_51_code 14 = .ok (.iconst 1, 1) := by decide +kernel
theorem d_Mo_readsSymbol_15 : decode prog_13_method_51_code 15 = .ok (.invokevirtual 203, 3) := by decide +kernel
theorem d_Mo_readsSymbol_18 : decode prog_13_method_51_code 18 = .ok (.l2i, 1) := by decide +kernel
theorem d_Mo_readsSymbol_19 : decode prog_13_method_51_code 19 = .ok (.ior, 1) := by decide +kernel
theorem d_Mo_readsSymbol_20 : decode prog_13_method_51_code 20 = .ok (.istore_n 1, 1) := by decide +kernel
theorem d_Mo_readsSymbol_21 : decode prog_13_method_51_code 21 = .ok (.aload_n 0, 1) := by decide +kernel
theorem d_Mo_readsSymbol_22 : decode prog_13_method_51_code 22 = .ok (.getfield 194, 3) := by decide +kernel
theorem d_Mo_readsSymbol_25 : decode prog_13_method_51_code 25 = .ok (.ifCond .eq 5, 3) := by decide +kernel
theorem d_Mo_readsSymbol_28 : decode prog_13_method_51_code 28 = .ok (.iconst (-1), 1) := by decide +kernel
theorem d_Mo_readsSymbol_29 : decode prog_13_method_51_code 29 = .ok (.ireturn, 1) := by decide +kernel
theorem d_Mo_readsSymbol_30 : decode prog_13_method_51_code 30 = .ok (.iconst 0, 1) := by decide +kernel
theorem d_Mo_readsSymbol_31 : decode prog_13_method_51_code 31 = .ok (.istore_n 3, 1) := by decide +kernel
theorem d_Mo_readsSymbol_32 : decode prog_13_method_51_code 32 = .ok (.iload_n 3, 1) := by decide +kernel
theorem d_Mo_readsSymbol_33 : decode prog_13_method_51_code 33 = .ok (.aload_n 0, 1) := by decide +kernel
theorem d_Mo_readsSymbol_34 : decode prog_13_method_51_code 34 = .ok (.getfield 138, 3) := by decide +kernel
theorem d_Mo_readsSymbol_37 : decode prog_13_method_51_code 37 = .ok (.iconst 2, 1) := by decide +kernel
theorem d_Mo_readsSymbol_38 : decode prog_13_method_51_code 38 = .ok (.iadd, 1) := by decide +kernel
theorem d_Mo_readsSymbol_39 : decode prog_13_method_51_code 39 = .ok (.if_icmp .ge 31, 3) := by decide +kernel
theorem d_Mo_readsSymbol_42 : decode prog_13_method_51_code 42 = .ok (.aload_n 0, 1) := by decide +kernel
theorem d_Mo_readsSymbol_43 : decode prog_13_method_51_code 43 = .ok (.getfield 37, 3) := by decide +kernel
theorem d_Mo_readsSymbol_46 : decode prog_13_method_51_code 46 = .ok (.iload_n 3, 1) := by decide +kernel
theorem d_Mo_readsSymbol_47 : decode prog_13_method_51_code 47 = .ok (.iaload, 1) := by decide +kernel
theorem d_Mo_readsSymbol_48 : decode prog_13_method_51_code 48 = .ok (.iload_n 2, 1) := by decide +kernel
theorem d_Mo_readsSymbol_49 : decode prog_13_method_51_code 49 = .ok (.if_icmp .ne 15, 3) := by decide +kernel
theorem d_Mo_readsSymbol_52 : decode prog_13_method_51_code 52 = .ok (.aload_n 0, 1) := by decide +kernel
theorem d_Mo_readsSymbol_53 : decode prog_13_method_51_code 53 = .ok (.getfield 40, 3) := by decide +kernel
theorem d_Mo_readsSymbol_56 : decode prog_13_method_51_code 56 = .ok (.iload_n 3, 1) := by decide +kernel
theorem d_Mo_readsSymbol_57 : decode prog_13_method_51_code 57 = .ok (.iaload, 1) := by decide +kernel
theorem d_Mo_readsSymbol_58 : decode prog_13_method_51_code 58 = .ok (.iload_n 1, 1) := by decide +kernel
theorem d_Mo_readsSymbol_59 : decode prog_13_method_51_code 59 = .ok (.if_icmp .ne 5, 3) := by decide +kernel
theorem d_Mo_readsSymbol_62 : decode prog_13_method_51_code 62 = .ok (.iload_n 3, 1) := by decide +kernel
theorem d_Mo_readsSymbol_63 : decode prog_13_method_51_code 63 = .ok (.ireturn, 1) := by decide +kernel
theorem d_Mo_readsSymbol_64 : decode prog_13_method_51_code 64 = .ok (.iinc 3 1, 3) := by decide +kernel
theorem d_Mo_readsSymbol_67 : decode prog_13_method_51_code 67 = .ok (.goto (-35), 3) := by decide +kernel
theorem d_Mo_readsSymbol_70 : decode prog_13_method_51_code 70 = .ok (.iinc 2 1, 3) := by decide +kernel
theorem d_Mo_readsSymbol_73 : decode prog_13_method_51_code 73 = .ok (.goto (-69), 3) := by decide +kernel
theorem d_Mo_readsSymbol_76 : decode prog_13_method_51_code 76 = .ok (.iconst (-1), 1) := by decide +kernel
theorem d_Mo_readsSymbol_77 : decode prog_13_method_51_code 77 = .ok (.ireturn, 1) := by decide +kernel
theorem d_Mo_readsRow_0 : decode prog_13_method_52_code 0 = .ok (.aload_n 0, 1) := by decide +kernel
theorem d_Mo_readsRow_1 : decode prog_13_method_52_code 1 = .ok (.iconst 0, 1) := by decide +kernel
theorem d_Mo_readsRow_2 : decode prog_13_method_52_code 2 = .ok (.putfield 87, 3) := by decide +kernel
theorem d_Mo_readsRow_5 : decode prog_13_method_52_code 5 = .ok (.iconst 1, 1) := by decide +kernel
theorem d_Mo_readsRow_6 : decode prog_13_method_52_code 6 = .ok (.istore_n 2, 1) := by decide +kernel
theorem d_Mo_readsRow_7 : decode prog_13_method_52_code 7 = .ok (.aload_n 0, 1) := by decide +kernel
theorem d_Mo_readsRow_8 : decode prog_13_method_52_code 8 = .ok (.getfield 197, 3) := by decide +kernel
theorem d_Mo_readsRow_11 : decode prog_13_method_52_code 11 = .ok (.bipush 8, 2) := by decide +kernel
theorem d_Mo_readsRow_13 : decode prog_13_method_52_code 13 = .ok (.idiv, 1) := by decide +kernel
theorem d_Mo_readsRow_14 : decode prog_13_method_52_code 14 = .ok (.istore_n 3, 1) := by decide +kernel
theorem d_Mo_readsRow_15 : decode prog_13_method_52_code 15 = .ok (.aload_n 0, 1) := by decide +kernel
theorem d_Mo_readsRow_16 : decode prog_13_method_52_code 16 = .ok (.invokevirtual 211, 3) := by decide +kernel
theorem d_Mo_readsRow_19 : decode prog_13_method_52_code 19 = .ok (.istore 4, 2) := by decide +kernel
theorem d_Mo_readsRow_21 : decode prog_13_method_52_code 21 = .ok (.aload_n 0, 1) := by decide +kernel
theorem d_Mo_readsRow_22 : decode prog_13_method_52_code 22 = .ok (.getfield 194, 3) := by decide +kernel
theorem d_Mo_readsRow_25 : decode prog_13_method_52_code 25 = .ok (.ifCond .eq 5, 3) := by decide +kernel
theorem d_Mo_readsRow_28 : decode prog_13_method_52_code 28 = .ok (.iconst 0, 1) := by decide +kernel
theorem d_Mo_readsRow_29 : decode prog_13_method_52_code 29 = .ok (.ireturn, 1) := by decide +kernel
theorem d_Mo_readsRow_30 : decode prog_13_method_52_code 30 = .ok (.iload 4, 2) := by decide +kernel
theorem d_Mo_readsRow_32 : decode prog_13_method_52_code 32 = .ok (.aload_n 0, 1) := by decide +kernel
theorem d_Mo_readsRow_33 : decode prog_13_method_52_code 33 = .ok (.getfield 138, 3) := by decide +kernel
theorem d_Mo_readsRow_36 : decode prog_13_method_52_code 36 = .ok (.iconst 1, 1) := by decide +kernel
theorem d_Mo_readsRow_37 : decode prog_13_method_52_code 37 = .ok (.iadd, 1) := by decide +kernel
theorem d_Mo_readsRow_38 : decode prog_13_method_52_code 38 = .ok (.if_icmp .ne 27, 3) := by decide +kernel
theorem d_Mo_readsRow_41 : decode prog_13_method_52_code 41 = .ok (.aload_n 0, 1) := by decide +kernel
theorem d_Mo_readsRow_42 : decode prog_13_method_52_code 42 = .ok (.getfield 87, 3) := by decide +kernel
theorem d_Mo_readsRow_45 : decode prog_13_method_52_code 45 = .ok (.iload_n 1, 1) := by decide +kernel
theorem d_Mo_readsRow_46 : decode prog_13_method_52_code 46 = .ok (.if_icmp .eq 13, 3) := by decide +kernel
theorem d_Mo_readsRow_49 : decode prog_13_method_52_code 49 = .ok (.aload_n 0, 1) := by decide +kernel
theorem d_Mo_readsRow_50 : decode prog_13_method_52_code 50 = .ok (.bipush 8, 2) := by decide +kernel
theorem d_Mo_readsRow_52 : decode prog_13_method_52_code 52 = .ok (.iload_n 3, 1) := by decide +kernel
theorem d_Mo_readsRow_53 : decode prog_13_method_52_code 53 = .ok (.invokevirtual 200, 3) := by decide +kernel
theorem d_Mo_readsRow_56 : decode prog_13_method_52_code 56 = .ok (.ifCond .eq 7, 3) := by decide +kernel
theorem d_Mo_readsRow_59 : decode prog_13_method_52_code 59 = .ok (.iconst 1, 1) := by decide +kernel
theorem d_Mo_readsRow_60 : decode prog_13_method_52_code 60 = .ok (.goto 4, 3) := by decide +kernel
theorem d_Mo_readsRow_63 : decode prog_13_method_52_code 63 = .ok (.iconst 0, 1) := by decide +kernel
theorem d_Mo_readsRow_64 : decode prog_13_method_52_code 64 = .ok (.ireturn, 1) := by decide +kernel
theorem d_Mo_readsRow_65 : decode prog_13_method_52_code 65 = .ok (.iload 4, 2) := by decide +kernel
theorem d_Mo_readsRow_67 : decode prog_13_method_52_code 67 = .ok (.iconst 2, 1) := by decide +kernel
theorem d_Mo_readsRow_68 : decode prog_13_method_52_code 68 = .ok (.if_icmp .ge 12, 3) := by decide +kernel
theorem d_Mo_readsRow_71 : decode prog_13_method_52_code 71 = .ok (.iload 4, 2) := by decide +kernel
theorem d_Mo_readsRow_73 : decode prog_13_method_52_code 73 = .ok (.iconst 1, 1) := by decide +kernel
theorem d_Mo_readsRow_74 : decode prog_13_method_52_code 74 = .ok (.iadd, 1) := by decide +kernel
theorem d_Mo_readsRow_75 : decode prog_13_method_52_code 75 = .ok (.iload_n 2, 1) := by decide +kernel
theorem d_Mo_readsRow_76 : decode prog_13_method_52_code 76 = .ok (.imul, 1) := by decide +kernel
theorem d_Mo_readsRow_77 : decode prog_13_method_52_code 77 = .ok (.goto 4, 3) := by decide +kernel
theorem d_Mo_readsRow_80 : decode prog_13_method_52_code 80 = .ok (.iconst 1, 1) := by decide +kernel
theorem d_Mo_readsRow_81 : decode prog_13_method_52_code 81 = .ok (.istore 5, 2) := by decide +kernel
theorem d_Mo_readsRow_83 : decode prog_13_method_52_code 83 = .ok (.aload_n 0, 1) := by decide +kernel
theorem d_Mo_readsRow_84 : decode prog_13_method_52_code 84 = .ok (.getfield 87, 3) := by decide +kernel
theorem d_Mo_readsRow_87 : decode prog_13_method_52_code 87 = .ok (.iload 5, 2) := by decide +kernel
theorem d_Mo_readsRow_89 : decode prog_13_method_52_code 89 = .ok (.iadd, 1) := by decide +kernel
theorem d_Mo_readsRow_90 : decode prog_13_method_52_code 90 = .ok (.iload_n 1, 1) := by decide +kernel
theorem d_Mo_readsRow_91 : decode prog_13_method_52_code 91 = .ok (.if_icmp .le 11, 3) := by decide +kernel
theorem d_Mo_readsRow_94 : decode prog_13_method_52_code 94 = .ok (.aload_n 0, 1) := by decide +kernel
theorem d_Mo_readsRow_95 : decode prog_13_method_52_code 95 = .ok (.bipush 8, 2) := by decide +kernel
theorem d_Mo_readsRow_97 : decode prog_13_method_52_code 97 = .ok (.iload_n 3, 1) := by decide +kernel
theorem d_Mo_readsRow_98 : decode prog_13_method_52_code 98 = .ok (.invokevirtual 200, 3) := by decide +kernel
theorem d_Mo_readsRow_101 : decode prog_13_method_52_code 101 = .ok (.ireturn, 1) := by decide +kernel
theorem d_Mo_readsRow_102 : decode prog_13_method_52_code 102 = .ok (.iload 4, 2) := by decide +kernel
theorem d_Mo_readsRow_104 : decode prog_13_method_52_code 104 = .ok (.iconst 2, 1) := by decide +kernel
theorem d_Mo_readsRow_105 : decode prog_13_method_52_code 105 = .ok (.if_icmp .ge 9, 3) := by decide +kernel
theorem d_Mo_readsRow_108 : decode prog_13_method_52_code 108 = .ok (.iconst 2, 1) := by decide +kernel
theorem d_Mo_readsRow_109 : decode prog_13_method_52_code 109 = .ok (.iload_n 2, 1) := by decide +kernel
theorem d_Mo_readsRow_110 : decode prog_13_method_52_code 110 = .ok (.imul, 1) := by decide +kernel
theorem d_Mo_readsRow_111 : decode prog_13_method_52_code 111 = .ok (.goto 4, 3) := by decide +kernel
theorem d_Mo_readsRow_114 : decode prog_13_method_52_code 114 = .ok (.iconst 1, 1) := by decide +kernel
theorem d_Mo_readsRow_115 : decode prog_13_method_52_code 115 = .ok (.istore_n 2, 1) := by decide +kernel
theorem d_Mo_readsRow_116 : decode prog_13_method_52_code 116 = .ok (.iload 4, 2) := by decide +kernel
theorem d_Mo_readsRow_118 : decode prog_13_method_52_code 118 = .ok (.iconst 2, 1) := by decide +kernel
theorem d_Mo_readsRow_119 : decode prog_13_method_52_code 119 = .ok (.if_icmp .ge 12, 3) := by decide +kernel
theorem d_Mo_readsRow_122 : decode prog_13_method_52_code 122 = .ok (.aload_n 0, 1) := by decide +kernel
theorem d_Mo_readsRow_123 : decode prog_13_method_52_code 123 = .ok (.getfield 31, 3) := by decide +kernel
theorem d_Mo_readsRow_126 : decode prog_13_method_52_code 126 = .ok (.iconst 0, 1) := by decide +kernel
theorem d_Mo_readsRow_127 : decode prog_13_method_52_code 127 = .ok (.iaload, 1) := by decide +kernel
theorem d_Mo_readsRow_128 : decode prog_13_method_52_code 128 = .ok (.goto 12, 3) := by decide +kernel
theorem d_Mo_readsRow_131 : decode prog_13_method_52_code 131 = .ok (.aload_n 0, 1) := by decide +kernel
theorem d_Mo_readsRow_132 : decode prog_13_method_52_code 132 = .ok (.getfield 31, 3) := by decide +kernel
theorem d_Mo_readsRow_135 : decode prog_13_method_52_code 135 = .ok (.iload 4, 2) := by decide +kernel
theorem d_Mo_readsRow_137 : decode prog_13_method_52_code 137 = .ok (.iconst 1, 1) := by decide +kernel
theorem d_Mo_readsRow_138 : decode prog_13_method_52_code 138 = .ok (.isub, 1) := by decide +kernel
theorem d_Mo_readsRow_139 : decode prog_13_method_52_code 139 = .ok (.iaload, 1) := by decide +kernel
theorem d_Mo_readsRow_140 : decode prog_13_method_52_code 140 = .ok (.istore 6, 2) := by decide +kernel
theorem d_Mo_readsRow_142 : decode prog_13_method_52_code 142 = .ok (.iload 4, 2) := by decide +kernel
theorem d_Mo_readsRow_144 : decode prog_13_method_52_code 144 = .ok (.iconst 1, 1) := by decide +kernel
theorem d_Mo_readsRow_145 : decode prog_13_method_52_code 145 = .ok (.if_icmp .le 10, 3) := by decide +kernel
theorem d_Mo_readsRow_148 : decode prog_13_method_52_code 148 = .ok (.aload_n 0, 1) := by decide +kernel
theorem d_Mo_readsRow_149 : decode prog_13_method_52_code 149 = .ok (.iload 6, 2) := by decide +kernel
theorem d_Mo_readsRow_151 : decode prog_13_method_52_code 151 = .ok (.invokevirtual 144, 3) := by decide +kernel
theorem d_Mo_readsRow_154 : decode prog_13_method_52_code 154 = .ok (.pop, 1) := by decide +kernel
theorem d_Mo_readsRow_155 : decode prog_13_method_52_code 155 = .ok (.iconst 0, 1) := by decide +kernel
theorem d_Mo_readsRow_156 : decode prog_13_method_52_code 156 = .ok (.istore 7, 2) := by decide +kernel
theorem d_Mo_readsRow_158 : decode prog_13_method_52_code 158 = .ok (.iload 7, 2) := by decide +kernel
theorem d_Mo_readsRow_160 : decode prog_13_method_52_code 160 = .ok (.iload 5, 2) := by decide +kernel
theorem d_Mo_readsRow_162 : decode prog_13_method_52_code 162 = .ok (.if_icmp .ge 27, 3) := by decide +kernel
theorem d_Mo_readsRow_165 : decode prog_13_method_52_code 165 = .ok (.aload_n 0, 1) := by decide +kernel
theorem d_Mo_readsRow_166 : decode prog_13_method_52_code 166 = .ok (.getfield 13, 3) := by decide +kernel
theorem d_Mo_readsRow_169 : decode prog_13_method_52_code 169 = .ok (.aload_n 0, 1) := by decide +kernel
theorem d_Mo_readsRow_170 : decode prog_13_method_52_code 170 = .ok (.dup, 1) := by decide +kernel
theorem d_Mo_readsRow_171 : decode prog_13_method_52_code 171 = .ok (.getfield 87, 3) := by decide +kernel
theorem d_Mo_readsRow_174 : decode prog_13_method_52_code 174 = .ok (.dup_x1, 1) := by decide +kernel
theorem d_Mo_readsRow_175 : decode prog_13_method_52_code 175 = .ok (.iconst 1, 1) := by decide +kernel
theorem d_Mo_readsRow_176 : decode prog_13_method_52_code 176 = .ok (.iadd, 1) := by decide +kernel
theorem d_Mo_readsRow_177 : decode prog_13_method_52_code 177 = .ok (.putfield 87, 3) := by decide +kernel
theorem d_Mo_readsRow_180 : decode prog_13_method_52_code 180 = .ok (.iload 6, 2) := by decide +kernel
theorem d_Mo_readsRow_182 : decode prog_13_method_52_code 182 = .ok (.iastore, 1) := by decide +kernel
theorem d_Mo_readsRow_183 : decode prog_13_method_52_code 183 = .ok (.iinc 7 1, 3) := by decide +kernel
theorem d_Mo_readsRow_186 : decode prog_13_method_52_code 186 = .ok (.goto (-28), 3) := by decide +kernel
theorem d_Mo_readsRow_189 : decode prog_13_method_52_code 189 = .ok (.goto (-182), 3) := by decide +kernel
theorem d_Mo_unpacks_0 : decode prog_13_method_53_code 0 = .ok (.aload_n 0, 1) := by decide +kernel
theorem d_Mo_unpacks_1 : decode prog_13_method_53_code 1 = .ok (.getfield 87, 3) := by decide +kernel
theorem d_Mo_unpacks_4 : decode prog_13_method_53_code 4 = .ok (.istore_n 1, 1) := by decide +kernel
theorem d_Mo_unpacks_5 : decode prog_13_method_53_code 5 = .ok (.iconst 0, 1) := by decide +kernel
theorem d_Mo_unpacks_6 : decode prog_13_method_53_code 6 = .ok (.istore_n 2, 1) := by decide +kernel
theorem d_Mo_unpacks_7 : decode prog_13_method_53_code 7 = .ok (.iload_n 2, 1) := by decide +kernel
theorem d_Mo_unpacks_8 : decode prog_13_method_53_code 8 = .ok (.iload_n 1, 1) := by decide +kernel
theorem d_Mo_unpacks_9 : decode prog_13_method_53_code 9 = .ok (.if_icmp .ge 21, 3) := by decide +kernel
theorem d_Mo_unpacks_12 : decode prog_13_method_53_code 12 = .ok (.aload_n 0, 1) := by decide +kernel
theorem d_Mo_unpacks_13 : decode prog_13_method_53_code 13 = .ok (.getfield 28, 3) := by decide +kernel
theorem d_Mo_unpacks_16 : decode prog_13_method_53_code 16 = .ok (.iload_n 2, 1) := by decide +kernel
theorem d_Mo_unpacks_17 : decode prog_13_method_53_code 17 = .ok (.aload_n 0, 1) := by decide +kernel
theorem d_Mo_unpacks_18 : decode prog_13_method_53_code 18 = .ok (.getfield 13, 3) := by decide +kernel
theorem d_Mo_unpacks_21 : decode prog_13_method_53_code 21 = .ok (.iload_n 2, 1) := by decide +kernel
theorem d_Mo_unpacks_22 : decode prog_13_method_53_code 22 = .ok (.iaload, 1) := by decide +kernel
theorem d_Mo_unpacks_23 : decode prog_13_method_53_code 23 = .ok (.iastore, 1) := by decide +kernel
theorem d_Mo_unpacks_24 : decode prog_13_method_53_code 24 = .ok (.iinc 2 1, 3) := by decide +kernel
theorem d_Mo_unpacks_27 : decode prog_13_method_53_code 27 = .ok (.goto (-20), 3) := by decide +kernel
theorem d_Mo_unpacks_30 : decode prog_13_method_53_code 30 = .ok (.aload_n 0, 1) := by decide +kernel
theorem d_Mo_unpacks_31 : decode prog_13_method_53_code 31 = .ok (.iconst 0, 1) := by decide +kernel
theorem d_Mo_unpacks_32 : decode prog_13_method_53_code 32 = .ok (.putfield 76, 3) := by decide +kernel
theorem d_Mo_unpacks_35 : decode prog_13_method_53_code 35 = .ok (.iconst 0, 1) := by decide +kernel
theorem d_Mo_unpacks_36 : decode prog_13_method_53_code 36 = .ok (.istore_n 2, 1) := by decide +kernel
theorem d_Mo_unpacks_37 : decode prog_13_method_53_code 37 = .ok (.iconst 0, 1) := by decide +kernel
theorem d_Mo_unpacks_38 : decode prog_13_method_53_code 38 = .ok (.istore_n 3, 1) := by decide +kernel
theorem d_Mo_unpacks_39 : decode prog_13_method_53_code 39 = .ok (.iload_n 3, 1) := by decide +kernel
theorem d_Mo_unpacks_40 : decode prog_13_method_53_code 40 = .ok (.iload_n 1, 1) := by decide +kernel
theorem d_Mo_unpacks_41 : decode prog_13_method_53_code 41 = .ok (.if_icmp .ge 156, 3) := by decide +kernel
theorem d_Mo_unpacks_44 : decode prog_13_method_53_code 44 = .ok (.aload_n 0, 1) := by decide +kernel
theorem d_Mo_unpacks_45 : decode prog_13_method_53_code 45 = .ok (.getfield 76, 3) := by decide +kernel
theorem d_Mo_unpacks_48 : decode prog_13_method_53_code 48 = .ok (.sipush 600, 3) := by decide +kernel
theorem d_Mo_unpacks_51 : decode prog_13_method_53_code 51 = .ok (.if_icmp .ne 5, 3) := by decide +kernel
theorem d_Mo_unpacks_54 : decode prog_13_method_53_code 54 = .ok (.iconst 0, 1) := by decide +kernel
theorem d_Mo_unpacks_55 : decode prog_13_method_53_code 55 = .ok (.ireturn, 1) := by decide +kernel
theorem d_Mo_unpacks_56 : decode prog_13_method_53_code 56 = .ok (.iload_n 2, 1) := by decide +kernel
theorem d_Mo_unpacks_57 : decode prog_13_method_53_code 57 = .ok (.ifCond .le 29, 3) := by decide +kernel
theorem d_Mo_unpacks_60 : decode prog_13_method_53_code 60 = .ok (.aload_n 0, 1) := by decide +kernel
theorem d_Mo_unpacks_61 : decode prog_13_method_53_code 61 = .ok (.getfield 28, 3) := by decide +kernel
theorem d_Mo_unpacks_64 : decode prog_13_method_53_code 64 = .ok (.iload_n 3, 1) := by decide +kernel
theorem d_Mo_unpacks_65 : decode prog_13_method_53_code 65 = .ok (.iaload, 1) := by decide +kernel
theorem d_Mo_unpacks_66 : decode prog_13_method_53_code 66 = .ok (.aload_n 0, 1) := by decide +kernel
theorem d_Mo_unpacks_67 : decode prog_13_method_53_code 67 = .ok (.getfield 7, 3) := by decide +kernel
theorem d_Mo_unpacks_70 : decode prog_13_method_53_code 70 = .ok (.aload_n 0, 1) := by decide +kernel
theorem d_Mo_unpacks_71 : decode prog_13_method_53_code 71 = .ok (.getfield 76, 3) := by decide +kernel
theorem d_Mo_unpacks_74 : decode prog_13_method_53_code 74 = .ok (.iconst 1, 1) := by decide +kernel
theorem d_Mo_unpacks_75 : decode prog_13_method_53_code 75 = .ok (.isub, 1) := by decide +kernel
theorem d_Mo_unpacks_76 : decode prog_13_method_53_code 76 = .ok (.iaload, 1) := by decide +kernel
theorem d_Mo_unpacks_77 : decode prog_13_method_53_code 77 = .ok (.if_icmp .ne 9, 3) := by decide +kernel
theorem d_Mo_unpacks_80 : decode prog_13_method_53_code 80 = .ok (.iload_n 2, 1) := by decide +kernel
theorem d_Mo_unpacks_81 : decode prog_13_method_53_code 81 = .ok (.iconst 1, 1) := by decide +kernel
theorem d_Mo_unpacks_82 : decode prog_13_method_53_code 82 = .ok (.iadd, 1) := by decide +kernel
theorem d_Mo_unpacks_83 : decode prog_13_method_53_code 83 = .ok (.goto 4, 3) := by decide +kernel
theorem d_Mo_unpacks_86 : decode prog_13_method_53_code 86 = .ok (.iconst 1, 1) := by decide +kernel
theorem d_Mo_unpacks_87 : decode prog_13_method_53_code 87 = .ok (.istore_n 2, 1) := by decide +kernel
theorem d_Mo_unpacks_88 : decode prog_13_method_53_code 88 = .ok (.aload_n 0, 1) := by decide +kernel
theorem d_Mo_unpacks_89 : decode prog_13_method_53_code 89 = .ok (.getfield 7, 3) := by decide +kernel
theorem d_Mo_unpacks_92 : decode prog_13_method_53_code 92 = .ok (.aload_n 0, 1) := by decide +kernel
theorem d_Mo_unpacks_93 : decode prog_13_method_53_code 93 = .ok (.dup, 1) := by decide +kernel
theorem d_Mo_unpacks_94 : decode prog_13_method_53_code 94 = .ok (.getfield 76, 3) := by decide +kernel
theorem d_Mo_unpacks_97 : decode prog_13_method_53_code 97 = .ok (.dup_x1, 1) := by decide +kernel
theorem d_Mo_unpacks_98 : decode prog_13_method_53_code 98 = .ok (.iconst 1, 1) := by decide +kernel
theorem d_Mo_unpacks_99 : decode prog_13_method_53_code 99 = .ok (.iadd, 1) := by decide +kernel
theorem d_Mo_unpacks_100 : decode prog_13_method_53_code 100 = .ok (.putfield 76, 3) := by decide +kernel
theorem d_Mo_unpacks_103 : decode prog_13_method_53_code 103 = .ok (.aload_n 0, 1) := by decide +kernel
theorem d_Mo_unpacks_104 : decode prog_13_method_53_code 104 = .ok (.getfield 28, 3) := by decide +kernel
theorem d_Mo_unpacks_107 : decode prog_13_method_53_code 107 = .ok (.iload_n 3, 1) := by decide +kernel
theorem d_Mo_unpacks_108 : decode prog_13_method_53_code 108 = .ok (.iaload, 1) := by decide +kernel
theorem d_Mo_unpacks_109 : decode prog_13_method_53_code 109 = .ok (.iastore, 1) := by decide +kernel
theorem d_Mo_unpacks_110 : decode prog_13_method_53_code 110 = .ok (.iload_n 2, 1) := by decide +kernel
theorem d_Mo_unpacks_111 : decode prog_13_method_53_code 111 = .ok (.iconst 4, 1) := by decide +kernel
theorem d_Mo_unpacks_112 : decode prog_13_method_53_code 112 = .ok (.if_icmp .ge 6, 3) := by decide +kernel
theorem d_Mo_unpacks_115 : decode prog_13_method_53_code 115 = .ok (.goto 76, 3) := by decide +kernel
theorem d_Mo_unpacks_118 : decode prog_13_method_53_code 118 = .ok (.iinc 3 1, 3) := by decide +kernel
theorem d_Mo_unpacks_121 : decode prog_13_method_53_code 121 = .ok (.iload_n 3, 1) := by decide +kernel
theorem d_Mo_unpacks_122 : decode prog_13_method_53_code 122 = .ok (.iload_n 1, 1) := by decide +kernel
theorem d_Mo_unpacks_123 : decode prog_13_method_53_code 123 = .ok (.if_icmp .eq 20, 3) := by decide +kernel
theorem d_Mo_unpacks_126 : decode prog_13_method_53_code 126 = .ok (.aload_n 0, 1) := by decide +kernel
theorem d_Mo_unpacks_127 : decode prog_13_method_53_code 127 = .ok (.getfield 76, 3) := by decide +kernel
theorem d_Mo_unpacks_130 : decode prog_13_method_53_code 130 = .ok (.aload_n 0, 1) := by decide +kernel
theorem d_Mo_unpacks_131 : decode prog_13_method_53_code 131 = .ok (.getfield 28, 3) := by decide +kernel
theorem d_Mo_unpacks_134 : decode prog_13_method_53_code 134 = .ok (.iload_n 3, 1) := by decide +kernel
theorem d_Mo_unpacks_135 : decode prog_13_method_53_code 135 = .ok (.iaload, 1) := by decide +kernel
theorem d_Mo_unpacks_136 : decode prog_13_method_53_code 136 = .ok (.iadd, 1) := by decide +kernel
theorem d_Mo_unpacks_137 : decode prog_13_method_53_code 137 = .ok (.sipush 600, 3) := by decide +kernel
theorem d_Mo_unpacks_140 : decode prog_13_method_53_code 140 = .ok (.if_icmp .le 5, 3) := by decide +kernel
theorem d_Mo_unpacks_143 : decode prog_13_method_53_code 143 = .ok (.iconst 0, 1) := by decide +kernel
theorem d_Mo_unpacks_144 : decode prog_13_method_53_code 144 = .ok (.ireturn, 1) := by decide +kernel
theorem d_Mo_unpacks_145 : decode prog_13_method_53_code 145 = .ok (.iconst 0, 1) := by decide +kernel
theorem d_Mo_unpacks_146 : decode prog_13_method_53_code 146 = .ok (.istore 4, 2) := by decide +kernel
theorem d_Mo_unpacks_148 : decode prog_13_method_53_code 148 = .ok (.iload 4, 2) := by decide +kernel
theorem d_Mo_unpacks_150 : decode prog_13_method_53_code 150 = .ok (.aload_n 0, 1) := by decide +kernel
theorem d_Mo_unpacks_151 : decode prog_13_method_53_code 151 = .ok (.getfield 28, 3) := by decide +kernel
theorem d_Mo_unpacks_154 : decode prog_13_method_53_code 154 = .ok (.iload_n 3, 1) := by decide +kernel
theorem d_Mo_unpacks_155 : decode prog_13_method_53_code 155 = .ok (.iaload, 1) := by decide +kernel
theorem d_Mo_unpacks_156 : decode prog_13_method_53_code 156 = .ok (.if_icmp .ge 33, 3) := by decide +kernel
theorem d_Mo_unpacks_159 : decode prog_13_method_53_code 159 = .ok (.aload_n 0, 1) := by decide +kernel
theorem d_Mo_unpacks_160 : decode prog_13_method_53_code 160 = .ok (.getfield 7, 3) := by decide +kernel
theorem d_Mo_unpacks_163 : decode prog_13_method_53_code 163 = .ok (.aload_n 0, 1) := by decide +kernel
theorem d_Mo_unpacks_164 : decode prog_13_method_53_code 164 = .ok (.dup, 1) := by decide +kernel
theorem d_Mo_unpacks_165 : decode prog_13_method_53_code 165 = .ok (.getfield 76, 3) := by decide +kernel
theorem d_Mo_unpacks_168 : decode prog_13_method_53_code 168 = .ok (.dup_x1, 1) := by decide +kernel
theorem d_Mo_unpacks_169 : decode prog_13_method_53_code 169 = .ok (.iconst 1, 1) := by decide +kernel
theorem d_Mo_unpacks_170 : decode prog_13_method_53_code 170 = .ok (.iadd, 1) := by decide +kernel
theorem d_Mo_unpacks_171 : decode prog_13_method_53_code 171 = .ok (.putfield 76, 3) := by decide +kernel
theorem d_Mo_unpacks_174 : decode prog_13_method_53_code 174 = .ok (.aload_n 0, 1) := by decide +kernel
theorem d_Mo_unpacks_175 : decode prog_13_method_53_code 175 = .ok (.getfield 28, 3) := by decide +kernel
theorem d_Mo_unpacks_178 : decode prog_13_method_53_code 178 = .ok (.iload_n 3, 1) := by decide +kernel
theorem d_Mo_unpacks_179 : decode prog_13_method_53_code 179 = .ok (.iconst 1, 1) := by decide +kernel
theorem d_Mo_unpacks_180 : decode prog_13_method_53_code 180 = .ok (.isub, 1) := by decide +kernel
theorem d_Mo_unpacks_181 : decode prog_13_method_53_code 181 = .ok (.iaload, 1) := by decide +kernel
theorem d_Mo_unpacks_182 : decode prog_13_method_53_code 182 = .ok (.iastore, 1) := by decide +kernel
theorem d_Mo_unpacks_183 : decode prog_13_method_53_code 183 = .ok (.iinc 4 1, 3) := by decide +kernel
theorem d_Mo_unpacks_186 : decode prog_13_method_53_code 186 = .ok (.goto (-38), 3) := by decide +kernel
theorem d_Mo_unpacks_189 : decode prog_13_method_53_code 189 = .ok (.iconst 0, 1) := by decide +kernel
theorem d_Mo_unpacks_190 : decode prog_13_method_53_code 190 = .ok (.istore_n 2, 1) := by decide +kernel
theorem d_Mo_unpacks_191 : decode prog_13_method_53_code 191 = .ok (.iinc 3 1, 3) := by decide +kernel
theorem d_Mo_unpacks_194 : decode prog_13_method_53_code 194 = .ok (.goto (-155), 3) := by decide +kernel
theorem d_Mo_unpacks_197 : decode prog_13_method_53_code 197 = .ok (.aload_n 0, 1) := by decide +kernel
theorem d_Mo_unpacks_198 : decode prog_13_method_53_code 198 = .ok (.invokevirtual 90, 3) := by decide +kernel
theorem d_Mo_unpacks_201 : decode prog_13_method_53_code 201 = .ok (.aload_n 0, 1) := by decide +kernel
theorem d_Mo_unpacks_202 : decode prog_13_method_53_code 202 = .ok (.getfield 87, 3) := by decide +kernel
theorem d_Mo_unpacks_205 : decode prog_13_method_53_code 205 = .ok (.iload_n 1, 1) := by decide +kernel
theorem d_Mo_unpacks_206 : decode prog_13_method_53_code 206 = .ok (.if_icmp .ne 7, 3) := by decide +kernel
theorem d_Mo_unpacks_209 : decode prog_13_method_53_code 209 = .ok (.iconst 1, 1) := by decide +kernel
theorem d_Mo_unpacks_210 : decode prog_13_method_53_code 210 = .ok (.goto 4, 3) := by decide +kernel
theorem d_Mo_unpacks_213 : decode prog_13_method_53_code 213 = .ok (.iconst 0, 1) := by decide +kernel
theorem d_Mo_unpacks_214 : decode prog_13_method_53_code 214 = .ok (.istore_n 3, 1) := by decide +kernel
theorem d_Mo_unpacks_215 : decode prog_13_method_53_code 215 = .ok (.iconst 0, 1) := by decide +kernel
theorem d_Mo_unpacks_216 : decode prog_13_method_53_code 216 = .ok (.istore 4, 2) := by decide +kernel
theorem d_Mo_unpacks_218 : decode prog_13_method_53_code 218 = .ok (.iload 4, 2) := by decide +kernel
theorem d_Mo_unpacks_220 : decode prog_13_method_53_code 220 = .ok (.iload_n 1, 1) := by decide +kernel
theorem d_Mo_unpacks_221 : decode prog_13_method_53_code 221 = .ok (.if_icmp .ge 36, 3) := by decide +kernel
theorem d_Mo_unpacks_224 : decode prog_13_method_53_code 224 = .ok (.iload_n 3, 1) := by decide +kernel
theorem d_Mo_unpacks_225 : decode prog_13_method_53_code 225 = .ok (.ifCond .eq 32, 3) := by decide +kernel
theorem d_Mo_unpacks_228 : decode prog_13_method_53_code 228 = .ok (.aload_n 0, 1) := by decide +kernel
theorem d_Mo_unpacks_229 : decode prog_13_method_53_code 229 = .ok (.getfield 13, 3) := by decide +kernel
theorem d_Mo_unpacks_232 : decode prog_13_method_53_code 232 = .ok (.iload 4, 2) := by decide +kernel
theorem d_Mo_unpacks_234 : decode prog_13_method_53_code 234 = .ok (.iaload, 1) := by decide +kernel
theorem d_Mo_unpacks_235 : decode prog_13_method_53_code 235 = .ok (.aload_n 0, 1) := by decide +kernel
theorem d_Mo_unpacks_236 : decode prog_13_method_53_code 236 = .ok (.getfield 28, 3) := by decide +kernel
theorem d_Mo_unpacks_239 : decode prog_13_method_53_code 239 = .ok (.iload 4, 2) := by decide +kernel
theorem d_Mo_unpacks_241 : decode prog_13_method_53_code 241 = .ok (.iaload, 1) := by decide +kernel
theorem d_Mo_unpacks_242 : decode prog_13_method_53_code 242 = .ok (.if_icmp .ne 7, 3) := by decide +kernel
theorem d_Mo_unpacks_245 : decode prog_13_method_53_code 245 = .ok (.iconst 1, 1) := by decide +kernel
theorem d_Mo_unpacks_246 : decode prog_13_method_53_code 246 = .ok (.goto 4, 3) := by decide +kernel
theorem d_Mo_unpacks_249 : decode prog_13_method_53_code 249 = .ok (.iconst 0, 1) := by decide +kernel
theorem d_Mo_unpacks_250 : decode prog_13_method_53_code 250 = .ok (.istore_n 3, 1) := by decide +kernel
theorem d_Mo_unpacks_251 : decode prog_13_method_53_code 251 = .ok (.iinc 4 1, 3) := by decide +kernel
theorem d_Mo_unpacks_254 : decode prog_13_method_53_code 254 = .ok (.goto (-36), 3) := by decide +kernel
theorem d_Mo_unpacks_257 : decode prog_13_method_53_code 257 = .ok (.iload_n 3, 1) := by decide +kernel
theorem d_Mo_unpacks_258 : decode prog_13_method_53_code 258 = .ok (.ireturn, 1) := by decide +kernel
theorem d_Mo_read_0 : decode prog_13_method_54_code 0 = .ok (.aload_n 0, 1) := by decide +kernel
theorem d_Mo_read_1 : decode prog_13_method_54_code 1 = .ok (.iconst 0, 1) := by decide +kernel
theorem d_Mo_read_2 : decode prog_13_method_54_code 2 = .ok (.putfield 197, 3) := by decide +kernel
theorem d_Mo_read_5 : decode prog_13_method_54_code 5 = .ok (.aload_n 0, 1) := by decide +kernel
theorem d_Mo_read_6 : decode prog_13_method_54_code 6 = .ok (.iconst 0, 1) := by decide +kernel
theorem d_Mo_read_7 : decode prog_13_method_54_code 7 = .ok (.putfield 194, 3) := by decide +kernel
theorem d_Mo_read_10 : decode prog_13_method_54_code 10 = .ok (.aload_n 0, 1) := by decide +kernel
theorem d_Mo_read_11 : decode prog_13_method_54_code 11 = .ok (.bipush (-2), 2) := by decide +kernel
theorem d_Mo_read_13 : decode prog_13_method_54_code 13 = .ok (.putfield 63, 3) := by decide +kernel
theorem d_Mo_read_16 : decode prog_13_method_54_code 16 = .ok (.aload_n 0, 1) := by decide +kernel
theorem d_Mo_read_17 : decode prog_13_method_54_code 17 = .ok (.getfield 76, 3) := by decide +kernel
theorem d_Mo_read_20 : decode prog_13_method_54_code 20 = .ok (.istore_n 1, 1) := by decide +kernel
theorem d_Mo_read_21 : decode prog_13_method_54_code 21 = .ok (.iconst 0, 1) := by decide +kernel
theorem d_Mo_read_22 : decode prog_13_method_54_code 22 = .ok (.istore_n 2, 1) := by decide +kernel
theorem d_Mo_read_23 : decode prog_13_method_54_code 23 = .ok (.iload_n 2, 1) := by decide +kernel
theorem d_Mo_read_24 : decode prog_13_method_54_code 24 = .ok (.aload_n 0, 1) := by decide +kernel
theorem d_Mo_read_25 : decode prog_13_method_54_code 25 = .ok (.getfield 76, 3) := by decide +kernel
theorem d_Mo_read_28 : decode prog_13_method_54_code 28 = .ok (.if_icmp .ge 21, 3) := by decide +kernel
theorem d_Mo_read_31 : decode prog_13_method_54_code 31 = .ok (.aload_n 0, 1) := by decide +kernel
theorem d_Mo_read_32 : decode prog_13_method_54_code 32 = .ok (.getfield 67, 3) := by decide +kernel
theorem d_Mo_read_35 : decode prog_13_method_54_code 35 = .ok (.iload_n 2, 1) := by decide +kernel
theorem d_Mo_read_36 : decode prog_13_method_54_code 36 = .ok (.aload_n 0, 1) := by decide +kernel
theorem d_Mo_read_37 : decode prog_13_method_54_code 37 = .ok (.getfield 7, 3) := by decide +kernel
theorem d_Mo_read_40 : decode prog_13_method_54_code 40 = .ok (.iload_n 2, 1) := by decide +kernel
theorem d_Mo_read_41 : decode prog_13_method_54_code 41 = .ok (.iaload, 1) := by decide +kernel
theorem d_Mo_read_42 : decode prog_13_method_54_code 42 = .ok (.iastore, 1) := by decide +kernel
theorem d_Mo_read_43 : decode prog_13_method_54_code 43 = .ok (.iinc 2 1, 3) := by decide +kernel
theorem d_Mo_read_46 : decode prog_13_method_54_code 46 = .ok (.goto (-23), 3) := by decide +kernel
theorem d_Mo_read_49 : decode prog_13_method_54_code 49 = .ok (.aload_n 0, 1) := by decide +kernel
theorem d_Mo_read_50 : decode prog_13_method_54_code 50 = .ok (.invokevirtual 214, 3) := by decide +kernel
theorem d_Mo_read_53 : decode prog_13_method_54_code 53 = .ok (.pop, 1) := by decide +kernel
theorem d_Mo_read_54 : decode prog_13_method_54_code 54 = .ok (.aload_n 0, 1) := by decide +kernel
theorem d_Mo_read_55 : decode prog_13_method_54_code 55 = .ok (.iconst 0, 1) := by decide +kernel
theorem d_Mo_read_56 : decode prog_13_method_54_code 56 = .ok (.putfield 191, 3) := by decide +kernel
theorem d_Mo_read_59 : decode prog_13_method_54_code 59 = .ok (.aload_n 0, 1) := by decide +kernel
theorem d_Mo_read_60 : decode prog_13_method_54_code 60 = .ok (.getfield 194, 3) := by decide +kernel
theorem d_Mo_read_63 : decode prog_13_method_54_code 63 = .ok (.ifCond .eq 44, 3) := by decide +kernel
theorem d_Mo_read_66 : decode prog_13_method_54_code 66 = .ok (.aload_n 0, 1) := by decide +kernel
theorem d_Mo_read_67 : decode prog_13_method_54_code 67 = .ok (.iload_n 1, 1) := by decide +kernel
theorem d_Mo_read_68 : decode prog_13_method_54_code 68 = .ok (.putfield 76, 3) := by decide +kernel
theorem d_Mo_read_71 : decode prog_13_method_54_code 71 = .ok (.iconst 0, 1) := by decide +kernel
theorem d_Mo_read_72 : decode prog_13_method_54_code 72 = .ok (.istore_n 2, 1) := by decide +kernel
theorem d_Mo_read_73 : decode prog_13_method_54_code 73 = .ok (.iload_n 2, 1) := by decide +kernel
theorem d_Mo_read_74 : decode prog_13_method_54_code 74 = .ok (.aload_n 0, 1) := by decide +kernel
theorem d_Mo_read_75 : decode prog_13_method_54_code 75 = .ok (.getfield 76, 3) := by decide +kernel
theorem d_Mo_read_78 : decode prog_13_method_54_code 78 = .ok (.if_icmp .ge 21, 3) := by decide +kernel
theorem d_Mo_read_81 : decode prog_13_method_54_code 81 = .ok (.aload_n 0, 1) := by decide +kernel
theorem d_Mo_read_82 : decode prog_13_method_54_code 82 = .ok (.getfield 7, 3) := by decide +kernel
theorem d_Mo_read_85 : decode prog_13_method_54_code 85 = .ok (.iload_n 2, 1) := by decide +kernel
theorem d_Mo_read_86 : decode prog_13_method_54_code 86 = .ok (.aload_n 0, 1) := by decide +kernel
theorem d_Mo_read_87 : decode prog_13_method_54_code 87 = .ok (.getfield 67, 3) := by decide +kernel
theorem d_Mo_read_90 : decode prog_13_method_54_code 90 = .ok (.iload_n 2, 1) := by decide +kernel
theorem d_Mo_read_91 : decode prog_13_method_54_code 91 = .ok (.iaload, 1) := by decide +kernel
theorem d_Mo_read_92 : decode prog_13_method_54_code 92 = .ok (.iastore, 1) := by decide +kernel
theorem d_Mo_read_93 : decode prog_13_method_54_code 93 = .ok (.iinc 2 1, 3) := by decide +kernel
theorem d_Mo_read_96 : decode prog_13_method_54_code 96 = .ok (.goto (-23), 3) := by decide +kernel
theorem d_Mo_read_99 : decode prog_13_method_54_code 99 = .ok (.bipush (-10), 2) := by decide +kernel
theorem d_Mo_read_101 : decode prog_13_method_54_code 101 = .ok (.aload_n 0, 1) := by decide +kernel
theorem d_Mo_read_102 : decode prog_13_method_54_code 102 = .ok (.getfield 194, 3) := by decide +kernel
theorem d_Mo_read_105 : decode prog_13_method_54_code 105 = .ok (.isub, 1) := by decide +kernel
theorem d_Mo_read_106 : decode prog_13_method_54_code 106 = .ok (.ireturn, 1) := by decide +kernel
theorem d_Mo_read_107 : decode prog_13_method_54_code 107 = .ok (.aload_n 0, 1) := by decide +kernel
theorem d_Mo_read_108 : decode prog_13_method_54_code 108 = .ok (.iconst 0, 1) := by decide +kernel
theorem d_Mo_read_109 : decode prog_13_method_54_code 109 = .ok (.putfield 81, 3) := by decide +kernel
theorem d_Mo_read_112 : decode prog_13_method_54_code 112 = .ok (.aload_n 0, 1) := by decide +kernel
theorem d_Mo_read_113 : decode prog_13_method_54_code 113 = .ok (.getfield 76, 3) := by decide +kernel
theorem d_Mo_read_116 : decode prog_13_method_54_code 116 = .ok (.ireturn, 1) := by decide +kernel
theorem d_Mo_reads_0 : decode prog_13_method_55_code 0 = .ok (.aload_n 0, 1) := by decide +kernel
theorem d_Mo_reads_1 : decode prog_13_method_55_code 1 = .ok (.bipush 16, 2) := by decide +kernel
theorem d_Mo_reads_3 : decode prog_13_method_55_code 3 = .ok (.invokevirtual 203, 3) := by decide +kernel
theorem d_Mo_reads_6 : decode prog_13_method_55_code 6 = .ok (.ldc2_w 170, 3) := by decide +kernel
theorem d_Mo_reads_9 : decode prog_13_method_55_code 9 = .ok (.lcmp, 1) := by decide +kernel
theorem d_Mo_reads_10 : decode prog_13_method_55_code 10 = .ok (.ifCond .eq 10, 3) := by decide +kernel
theorem d_Mo_reads_13 : decode prog_13_method_55_code 13 = .ok (.aload_n 0, 1) := by decide +kernel
theorem d_Mo_reads_14 : decode prog_13_method_55_code 14 = .ok (.iconst 2, 1) := by decide +kernel
theorem d_Mo_reads_15 : decode prog_13_method_55_code 15 = .ok (.iconst 0, 1) := by decide +kernel
theorem d_Mo_reads_16 : decode prog_13_method_55_code 16 = .ok (.invokevirtual 200, 3) := by decide +kernel
theorem d_Mo_reads_19 : decode prog_13_method_55_code 19 = .ok (.ireturn, 1) := by decide +kernel
theorem d_Mo_reads_20 : decode prog_13_method_55_code 20 = .ok (.aload_n 0, 1) := by decide +kernel
theorem d_Mo_reads_21 : decode prog_13_method_55_code 21 = .ok (.bipush 16, 2) := by decide +kernel
theorem d_Mo_reads_23 : decode prog_13_method_55_code 23 = .ok (.invokevirtual 203, 3) := by decide +kernel
theorem d_Mo_reads_26 : decode prog_13_method_55_code 26 = .ok (.l2i, 1) := by decide +kernel
theorem d_Mo_reads_27 : decode prog_13_method_55_code 27 = .ok (.istore_n 1, 1) := by decide +kernel
theorem d_Mo_reads_28 : decode prog_13_method_55_code 28 = .ok (.aload_n 0, 1) := by decide +kernel
theorem d_Mo_reads_29 : decode prog_13_method_55_code 29 = .ok (.getfield 194, 3) := by decide +kernel
theorem d_Mo_reads_32 : decode prog_13_method_55_code 32 = .ok (.ifCond .eq 5, 3) := by decide +kernel
theorem d_Mo_reads_35 : decode prog_13_method_55_code 35 = .ok (.iconst 0, 1) := by decide +kernel
theorem d_Mo_reads_36 : decode prog_13_method_55_code 36 = .ok (.ireturn, 1) := by decide +kernel
theorem d_Mo_reads_37 : decode prog_13_method_55_code 37 = .ok (.iload_n 1, 1) := by decide +kernel
theorem d_Mo_reads_38 : decode prog_13_method_55_code 38 = .ok (.sipush 900, 3) := by decide +kernel
theorem d_Mo_reads_41 : decode prog_13_method_55_code 41 = .ok (.if_icmp .le 10, 3) := by decide +kernel
theorem d_Mo_reads_44 : decode prog_13_method_55_code 44 = .ok (.aload_n 0, 1) := by decide +kernel
theorem d_Mo_reads_45 : decode prog_13_method_55_code 45 = .ok (.iconst 3, 1) := by decide +kernel
theorem d_Mo_reads_46 : decode prog_13_method_55_code 46 = .ok (.iconst 2, 1) := by decide +kernel
theorem d_Mo_reads_47 : decode prog_13_method_55_code 47 = .ok (.invokevirtual 200, 3) := by decide +kernel
theorem d_Mo_reads_50 : decode prog_13_method_55_code 50 = .ok (.ireturn, 1) := by decide +kernel
theorem d_Mo_reads_51 : decode prog_13_method_55_code 51 = .ok (.aload_n 0, 1) := by decide +kernel
theorem d_Mo_reads_52 : decode prog_13_method_55_code 52 = .ok (.bipush 16, 2) := by decide +kernel
theorem d_Mo_reads_54 : decode prog_13_method_55_code 54 = .ok (.invokevirtual 203, 3) := by decide +kernel
theorem d_Mo_reads_57 : decode prog_13_method_55_code 57 = .ok (.l2i, 1) := by decide +kernel
theorem d_Mo_reads_58 : decode prog_13_method_55_code 58 = .ok (.istore_n 2, 1) := by decide +kernel
theorem d_Mo_reads_59 : decode prog_13_method_55_code 59 = .ok (.aload_n 0, 1) := by decide +kernel
theorem d_Mo_reads_60 : decode prog_13_method_55_code 60 = .ok (.getfield 194, 3) := by decide +kernel
theorem d_Mo_reads_63 : decode prog_13_method_55_code 63 = .ok (.ifCond .eq 5, 3) := by decide +kernel
theorem d_Mo_reads_66 : decode prog_13_method_55_code 66 = .ok (.iconst 0, 1) := by decide +kernel
theorem d_Mo_reads_67 : decode prog_13_method_55_code 67 = .ok (.ireturn, 1) := by decide +kernel
theorem d_Mo_reads_68 : decode prog_13_method_55_code 68 = .ok (.iload_n 1, 1) := by decide +kernel
theorem d_Mo_reads_69 : decode prog_13_method_55_code 69 = .ok (.ifCond .ne 10, 3) := by decide +kernel
theorem d_Mo_reads_72 : decode prog_13_method_55_code 72 = .ok (.iload_n 2, 1) := by decide +kernel
theorem d_Mo_reads_73 : decode prog_13_method_55_code 73 = .ok (.ifCond .eq 18, 3) := by decide +kernel
theorem d_Mo_reads_76 : decode prog_13_method_55_code 76 = .ok (.goto 8, 3) := by decide +kernel
theorem d_Mo_reads_79 : decode prog_13_method_55_code 79 = .ok (.iload_n 2, 1) := by decide +kernel
theorem d_Mo_reads_80 : decode prog_13_method_55_code 80 = .ok (.iload_n 1, 1) := by decide +kernel
theorem d_Mo_reads_81 : decode prog_13_method_55_code 81 = .ok (.if_icmp .lt 10, 3) := by decide +kernel
theorem d_Mo_reads_84 : decode prog_13_method_55_code 84 = .ok (.aload_n 0, 1) := by decide +kernel
theorem d_Mo_reads_85 : decode prog_13_method_55_code 85 = .ok (.iconst 4, 1) := by decide +kernel
theorem d_Mo_reads_86 : decode prog_13_method_55_code 86 = .ok (.iconst 4, 1) := by decide +kernel
theorem d_Mo_reads_87 : decode prog_13_method_55_code 87 = .ok (.invokevirtual 200, 3) := by decide +kernel
theorem d_Mo_reads_90 : decode prog_13_method_55_code 90 = .ok (.ireturn, 1) := by decide +kernel
theorem d_Mo_reads_91 : decode prog_13_method_55_code 91 = .ok (.aload_n 0, 1) := by decide +kernel
theorem d_Mo_reads_92 : decode prog_13_method_55_code 92 = .ok (.bipush 32, 2) := by decide +kernel
theorem d_Mo_reads_94 : decode prog_13_method_55_code 94 = .ok (.invokevirtual 203, 3) := by decide +kernel
theorem d_Mo_reads_97 : decode prog_13_method_55_code 97 = .ok (.lstore_n 3, 1) := by decide +kernel
theorem d_Mo_reads_98 : decode prog_13_method_55_code 98 = .ok (.aload_n 0, 1) := by decide +kernel
theorem d_Mo_reads_99 : decode prog_13_method_55_code 99 = .ok (.getfield 194, 3) := by decide +kernel
theorem d_Mo_reads_102 : decode prog_13_method_55_code 102 = .ok (.ifCond .eq 5, 3) := by decide +kernel
theorem d_Mo_reads_105 : decode prog_13_method_55_code 105 = .ok (.iconst 0, 1) := by decide +kernel
theorem d_Mo_reads_106 : decode prog_13_method_55_code 106 = .ok (.ireturn, 1) := by decide +kernel
theorem d_Mo_reads_107 : decode prog_13_method_55_code 107 = .ok (.aload_n 0, 1) := by decide +kernel
theorem d_Mo_reads_108 : decode prog_13_method_55_code 108 = .ok (.iconst 0, 1) := by decide +kernel
theorem d_Mo_reads_109 : decode prog_13_method_55_code 109 = .ok (.putfield 76, 3) := by decide +kernel
theorem d_Mo_reads_112 : decode prog_13_method_55_code 112 = .ok (.iload_n 1, 1) := by decide +kernel
theorem d_Mo_reads_113 : decode prog_13_method_55_code 113 = .ok (.ifCond .le 58, 3) := by decide +kernel
theorem d_Mo_reads_116 : decode prog_13_method_55_code 116 = .ok (.aload_n 0, 1) := by decide +kernel
theorem d_Mo_reads_117 : decode prog_13_method_55_code 117 = .ok (.invokevirtual 218, 3) := by decide +kernel
theorem d_Mo_reads_120 : decode prog_13_method_55_code 120 = .ok (.ifCond .eq 18, 3) := by decide +kernel
theorem d_Mo_reads_123 : decode prog_13_method_55_code 123 = .ok (.aload_n 0, 1) := by decide +kernel
theorem d_Mo_reads_124 : decode prog_13_method_55_code 124 = .ok (.invokevirtual 221, 3) := by decide +kernel
theorem d_Mo_reads_127 : decode prog_13_method_55_code 127 = .ok (.ifCond .eq 11, 3) := by decide +kernel
theorem d_Mo_reads_130 : decode prog_13_method_55_code 130 = .ok (.aload_n 0, 1) := by decide +kernel
theorem d_Mo_reads_131 : decode prog_13_method_55_code 131 = .ok (.iload_n 1, 1) := by decide +kernel
theorem d_Mo_reads_132 : decode prog_13_method_55_code 132 = .ok (.invokevirtual 224, 3) := by decide +kernel
theorem d_Mo_reads_135 : decode prog_13_method_55_code 135 = .ok (.ifCond .ne 5, 3) := by decide +kernel
theorem d_Mo_reads_138 : decode prog_13_method_55_code 138 = .ok (.iconst 0, 1) := by decide +kernel
theorem d_Mo_reads_139 : decode prog_13_method_55_code 139 = .ok (.ireturn, 1) := by decide +kernel
theorem d_Mo_reads_140 : decode prog_13_method_55_code 140 = .ok (.aload_n 0, 1) := by decide +kernel
theorem d_Mo_reads_141 : decode prog_13_method_55_code 141 = .ok (.iload_n 2, 1) := by decide +kernel
theorem d_Mo_reads_142 : decode prog_13_method_55_code 142 = .ok (.invokevirtual 131, 3) := by decide +kernel
theorem d_Mo_reads_145 : decode prog_13_method_55_code 145 = .ok (.ifCond .ne 11, 3) := by decide +kernel
theorem d_Mo_reads_148 : decode prog_13_method_55_code 148 = .ok (.aload_n 0, 1) := by decide +kernel
theorem d_Mo_reads_149 : decode prog_13_method_55_code 149 = .ok (.bipush 9, 2) := by decide +kernel
theorem d_Mo_reads_151 : decode prog_13_method_55_code 151 = .ok (.iconst 4, 1) := by decide +kernel
theorem d_Mo_reads_152 : decode prog_13_method_55_code 152 = .ok (.invokevirtual 200, 3) := by decide +kernel
theorem d_Mo_reads_155 : decode prog_13_method_55_code 155 = .ok (.ireturn, 1) := by decide +kernel
theorem d_Mo_reads_156 : decode prog_13_method_55_code 156 = .ok (.aload_n 0, 1) := by decide +kernel
theorem d_Mo_reads_157 : decode prog_13_method_55_code 157 = .ok (.invokevirtual 227, 3) := by decide +kernel
theorem d_Mo_reads_160 : decode prog_13_method_55_code 160 = .ok (.ifCond .ne 11, 3) := by decide +kernel
theorem d_Mo_reads_163 : decode prog_13_method_55_code 163 = .ok (.aload_n 0, 1) := by decide +kernel
theorem d_Mo_reads_164 : decode prog_13_method_55_code 164 = .ok (.bipush 10, 2) := by decide +kernel
theorem d_Mo_reads_166 : decode prog_13_method_55_code 166 = .ok (.iconst 2, 1) := by decide +kernel
theorem d_Mo_reads_167 : decode prog_13_method_55_code 167 = .ok (.invokevirtual 200, 3) := by decide +kernel
theorem d_Mo_reads_170 : decode prog_13_method_55_code 170 = .ok (.ireturn, 1) := by decide +kernel
theorem d_Mo_reads_171 : decode prog_13_method_55_code 171 = .ok (.aload_n 0, 1) := by decide +kernel
theorem d_Mo_reads_172 : decode prog_13_method_55_code 172 = .ok (.invokevirtual 176, 3) := by decide +kernel
theorem d_Mo_reads_175 : decode prog_13_method_55_code 175 = .ok (.i2l, 1) := by decide +kernel
theorem d_Mo_reads_176 : decode prog_13_method_55_code 176 = .ok (.ldc2_w 179, 3) := by decide +kernel
theorem d_Mo_reads_179 : decode prog_13_method_55_code 179 = .ok (.land, 1) := by decide +kernel
theorem d_Mo_reads_180 : decode prog_13_method_55_code 180 = .ok (.lload_n 3, 1) := by decide +kernel
theorem d_Mo_reads_181 : decode prog_13_method_55_code 181 = .ok (.lcmp, 1) := by decide +kernel
theorem d_Mo_reads_182 : decode prog_13_method_55_code 182 = .ok (.ifCond .eq 12, 3) := by decide +kernel
theorem d_Mo_reads_185 : decode prog_13_method_55_code 185 = .ok (.aload_n 0, 1) := by decide +kernel
theorem d_Mo_reads_186 : decode prog_13_method_55_code 186 = .ok (.bipush 11, 2) := by decide +kernel
theorem d_Mo_reads_188 : decode prog_13_method_55_code 188 = .ok (.bipush 6, 2) := by decide +kernel
theorem d_Mo_reads_190 : decode prog_13_method_55_code 190 = .ok (.invokevirtual 200, 3) := by decide +kernel
theorem d_Mo_reads_193 : decode prog_13_method_55_code 193 = .ok (.ireturn, 1) := by decide +kernel
theorem d_Mo_reads_194 : decode prog_13_method_55_code 194 = .ok (.aload_n 0, 1) := by decide +kernel
theorem d_Mo_reads_195 : decode prog_13_method_55_code 195 = .ok (.getfield 197, 3) := by decide +kernel
theorem d_Mo_reads_198 : decode prog_13_method_55_code 198 = .ok (.bipush 8, 2) := by decide +kernel
theorem d_Mo_reads_200 : decode prog_13_method_55_code 200 = .ok (.idiv, 1) := by decide +kernel
theorem d_Mo_reads_201 : decode prog_13_method_55_code 201 = .ok (.istore 5, 2) := by decide +kernel
theorem d_Mo_reads_203 : decode prog_13_method_55_code 203 = .ok (.aload_n 0, 1) := by decide +kernel
theorem d_Mo_reads_204 : decode prog_13_method_55_code 204 = .ok (.getfield 197, 3) := by decide +kernel
theorem d_Mo_reads_207 : decode prog_13_method_55_code 207 = .ok (.bipush 8, 2) := by decide +kernel
theorem d_Mo_reads_209 : decode prog_13_method_55_code 209 = .ok (.irem, 1) := by decide +kernel
theorem d_Mo_reads_210 : decode prog_13_method_55_code 210 = .ok (.ifCond .eq 22, 3) := by decide +kernel
theorem d_Mo_reads_213 : decode prog_13_method_55_code 213 = .ok (.aload_n 0, 1) := by decide +kernel
theorem d_Mo_reads_214 : decode prog_13_method_55_code 214 = .ok (.iconst 1, 1) := by decide +kernel
theorem d_Mo_reads_215 : decode prog_13_method_55_code 215 = .ok (.invokevirtual 203, 3) := by decide +kernel
theorem d_Mo_reads_218 : decode prog_13_method_55_code 218 = .ok (.lconst 0, 1) := by decide +kernel
theorem d_Mo_reads_219 : decode prog_13_method_55_code 219 = .ok (.lcmp, 1) := by decide +kernel
theorem d_Mo_reads_220 : decode prog_13_method_55_code 220 = .ok (.ifCond .eq (-17), 3) := by decide +kernel
theorem d_Mo_reads_223 : decode prog_13_method_55_code 223 = .ok (.aload_n 0, 1) := by decide +kernel
theorem d_Mo_reads_224 : decode prog_13_method_55_code 224 = .ok (.bipush 12, 2) := by decide +kernel
theorem d_Mo_reads_226 : decode prog_13_method_55_code 226 = .ok (.iload 5, 2) := by decide +kernel
theorem d_Mo_reads_228 : decode prog_13_method_55_code 228 = .ok (.invokevirtual 200, 3) := by decide +kernel
theorem d_Mo_reads_231 : decode prog_13_method_55_code 231 = .ok (.ireturn, 1) := by decide +kernel
theorem d_Mo_reads_232 : decode prog_13_method_55_code 232 = .ok (.aload_n 0, 1) := by decide +kernel
theorem d_Mo_reads_233 : decode prog_13_method_55_code 233 = .ok (.getfield 197, 3) := by decide +kernel
theorem d_Mo_reads_236 : decode prog_13_method_55_code 236 = .ok (.bipush 8, 2) := by decide +kernel
theorem d_Mo_reads_238 : decode prog_13_method_55_code 238 = .ok (.idiv, 1) := by decide +kernel
theorem d_Mo_reads_239 : decode prog_13_method_55_code 239 = .ok (.aload_n 0, 1) := by decide +kernel
theorem d_Mo_reads_240 : decode prog_13_method_55_code 240 = .ok (.getfield 191, 3) := by decide +kernel
theorem d_Mo_reads_243 : decode prog_13_method_55_code 243 = .ok (.if_icmp .eq 19, 3) := by decide +kernel
theorem d_Mo_reads_246 : decode prog_13_method_55_code 246 = .ok (.aload_n 0, 1) := by decide +kernel
theorem d_Mo_reads_247 : decode prog_13_method_55_code 247 = .ok (.bipush 12, 2) := by decide +kernel
theorem d_Mo_reads_249 : decode prog_13_method_55_code 249 = .ok (.aload_n 0, 1) := by decide +kernel
theorem d_Mo_reads_250 : decode prog_13_method_55_code 250 = .ok (.getfield 197, 3) := by decide +kernel
theorem d_Mo_reads_253 : decode prog_13_method_55_code 253 = .ok (.bipush 8, 2) := by decide +kernel
theorem d_Mo_reads_255 : decode prog_13_method_55_code 255 = .ok (.idiv, 1) := by decide +kernel
theorem d_Mo_reads_256 : decode prog_13_method_55_code 256 = .ok (.invokevirtual 200, 3) := by decide +kernel
theorem d_Mo_reads_259 : decode prog_13_method_55_code 259 = .ok (.ifCond .eq 7, 3) := by decide +kernel
theorem d_Mo_reads_262 : decode prog_13_method_55_code 262 = .ok (.iconst 1, 1) := by decide +kernel
theorem d_Mo_reads_263 : decode prog_13_method_55_code 263 = .ok (.goto 4, 3) := by decide +kernel
theorem d_Mo_reads_266 : decode prog_13_method_55_code 266 = .ok (.iconst 0, 1) := by decide +kernel
theorem d_Mo_reads_267 : decode prog_13_method_55_code 267 = .ok (.ireturn, 1) := by decide +kernel

theorem d_Mo_putInOrder_0 : decode prog_13_method_13_code 0 = .ok (.iconst 0, 1) := by decide +kernel
theorem d_Mo_putInOrder_1 : decode prog_13_method_13_code 1 = .ok (.istore_n 1, 1) := by decide +kernel
theorem d_Mo_putInOrder_2 : decode prog_13_method_13_code 2 = .ok (.iload_n 1, 1) := by decide +kernel
theorem d_Mo_putInOrder_3 : decode prog_13_method_13_code 3 = .ok (.aload_n 0, 1) := by decide +kernel
theorem d_Mo_putInOrder_4 : decode prog_13_method_13_code 4 = .ok (.getfield 87, 3) := by decide +kernel
theorem d_Mo_putInOrder_7 : decode prog_13_method_13_code 7 = .ok (.if_icmp .ge 16, 3) := by decide +kernel
theorem d_Mo_putInOrder_10 : decode prog_13_method_13_code 10 = .ok (.aload_n 0, 1) := by decide +kernel
theorem d_Mo_putInOrder_11 : decode prog_13_method_13_code 11 = .ok (.getfield 16, 3) := by decide +kernel
theorem d_Mo_putInOrder_14 : decode prog_13_method_13_code 14 = .ok (.iload_n 1, 1) := by decide +kernel
theorem d_Mo_putInOrder_15 : decode prog_13_method_13_code 15 = .ok (.iload_n 1, 1) := by decide +kernel
theorem d_Mo_putInOrder_16 : decode prog_13_method_13_code 16 = .ok (.iastore, 1) := by decide +kernel
theorem d_Mo_putInOrder_17 : decode prog_13_method_13_code 17 = .ok (.iinc 1 1, 3) := by decide +kernel
theorem d_Mo_putInOrder_20 : decode prog_13_method_13_code 20 = .ok (.goto (-18), 3) := by decide +kernel
theorem d_Mo_putInOrder_23 : decode prog_13_method_13_code 23 = .ok (.iconst 1, 1) := by decide +kernel
theorem d_Mo_putInOrder_24 : decode prog_13_method_13_code 24 = .ok (.istore_n 1, 1) := by decide +kernel
theorem d_Mo_putInOrder_25 : decode prog_13_method_13_code 25 = .ok (.iload_n 1, 1) := by decide +kernel
theorem d_Mo_putInOrder_26 : decode prog_13_method_13_code 26 = .ok (.aload_n 0, 1) := by decide +kernel
theorem d_Mo_putInOrder_27 : decode prog_13_method_13_code 27 = .ok (.getfield 87, 3) := by decide +kernel
theorem d_Mo_putInOrder_30 : decode prog_13_method_13_code 30 = .ok (.if_icmp .ge 199, 3) := by decide +kernel
theorem d_Mo_putInOrder_33 : decode prog_13_method_13_code 33 = .ok (.iconst 0, 1) := by decide +kernel
theorem d_Mo_putInOrder_34 : decode prog_13_method_13_code 34 = .ok (.istore_n 2, 1) := by decide +kernel
theorem d_Mo_putInOrder_35 : decode prog_13_method_13_code 35 = .ok (.iload_n 2, 1) := by decide +kernel
theorem d_Mo_putInOrder_36 : decode prog_13_method_13_code 36 = .ok (.aload_n 0, 1) := by decide +kernel
theorem d_Mo_putInOrder_37 : decode prog_13_method_13_code 37 = .ok (.getfield 87, 3) := by decide +kernel
theorem d_Mo_putInOrder_40 : decode prog_13_method_13_code 40 = .ok (.if_icmp .ge 154, 3) := by decide +kernel
theorem d_Mo_putInOrder_43 : decode prog_13_method_13_code 43 = .ok (.iload_n 2, 1) := by decide +kernel
theorem d_Mo_putInOrder_44 : decode prog_13_method_13_code 44 = .ok (.istore_n 3, 1) := by decide +kernel
theorem d_Mo_putInOrder_45 : decode prog_13_method_13_code 45 = .ok (.iload_n 2, 1) := by decide +kernel
theorem d_Mo_putInOrder_46 : decode prog_13_method_13_code 46 = .ok (.iload_n 1, 1) := by decide +kernel
theorem d_Mo_putInOrder_47 : decode prog_13_method_13_code 47 = .ok (.iadd, 1) := by decide +kernel
theorem d_Mo_putInOrder_48 : decode prog_13_method_13_code 48 = .ok (.aload_n 0, 1) := by decide +kernel
theorem d_Mo_putInOrder_49 : decode prog_13_method_13_code 49 = .ok (.getfield 87, 3) := by decide +kernel
theorem d_Mo_putInOrder_52 : decode prog_13_method_13_code 52 = .ok (.if_icmp .ge 9, 3) := by decide +kernel
theorem d_Mo_putInOrder_55 : decode prog_13_method_13_code 55 = .ok (.iload_n 2, 1) := by decide +kernel
theorem d_Mo_putInOrder_56 : decode prog_13_method_13_code 56 = .ok (.iload_n 1, 1) := by decide +kernel
theorem d_Mo_putInOrder_57 : decode prog_13_method_13_code 57 = .ok (.iadd, 1) := by decide +kernel
theorem d_Mo_putInOrder_58 : decode prog_13_method_13_code 58 = .ok (.goto 7, 3) := by decide +kernel
theorem d_Mo_putInOrder_61 : decode prog_13_method_13_code 61 = .ok (.aload_n 0, 1) := by decide +kernel
theorem d_Mo_putInOrder_62 : decode prog_13_method_13_code 62 = .ok (.getfield 87, 3) := by decide +kernel
theorem d_Mo_putInOrder_65 : decode prog_13_method_13_code 65 = .ok (.istore 4, 2) := by decide +kernel
theorem d_Mo_putInOrder_67 : decode prog_13_method_13_code 67 = .ok (.iload 4, 2) := by decide +kernel
theorem d_Mo_putInOrder_69 : decode prog_13_method_13_code 69 = .ok (.istore 5, 2) := by decide +kernel
theorem d_Mo_putInOrder_71 : decode prog_13_method_13_code 71 = .ok (.iload 4, 2) := by decide +kernel
theorem d_Mo_putInOrder_73 : decode prog_13_method_13_code 73 = .ok (.iload_n 1, 1) := by decide +kernel
theorem d_Mo_putInOrder_74 : decode prog_13_method_13_code 74 = .ok (.iadd, 1) := by decide +kernel
theorem d_Mo_putInOrder_75 : decode prog_13_method_13_code 75 = .ok (.aload_n 0, 1) := by decide +kernel
theorem d_Mo_putInOrder_76 : decode prog_13_method_13_code 76 = .ok (.getfield 87, 3) := by decide +kernel
theorem d_Mo_putInOrder_79 : decode prog_13_method_13_code 79 = .ok (.if_icmp .ge 10, 3) := by decide +kernel
theorem d_Mo_putInOrder_82 : decode prog_13_method_13_code 82 = .ok (.iload 4, 2) := by decide +kernel
theorem d_Mo_putInOrder_84 : decode prog_13_method_13_code 84 = .ok (.iload_n 1, 1) := by decide +kernel
theorem d_Mo_putInOrder_85 : decode prog_13_method_13_code 85 = .ok (.iadd, 1) := by decide +kernel
theorem d_Mo_putInOrder_86 : decode prog_13_method_13_code 86 = .ok (.goto 7, 3) := by decide +kernel
theorem d_Mo_putInOrder_89 : decode prog_13_method_13_code 89 = .ok (.aload_n 0, 1) := by decide +kernel
theorem d_Mo_putInOrder_90 : decode prog_13_method_13_code 90 = .ok (.getfield 87, 3) := by decide +kernel
theorem d_Mo_putInOrder_93 : decode prog_13_method_13_code 93 = .ok (.istore 6, 2) := by decide +kernel
theorem d_Mo_putInOrder_95 : decode prog_13_method_13_code 95 = .ok (.iload_n 2, 1) := by decide +kernel
theorem d_Mo_putInOrder_96 : decode prog_13_method_13_code 96 = .ok (.istore 7, 2) := by decide +kernel
theorem d_Mo_putInOrder_98 : decode prog_13_method_13_code 98 = .ok (.iload 7, 2) := by decide +kernel
theorem d_Mo_putInOrder_100 : decode prog_13_method_13_code 100 = .ok (.iload 6, 2) := by decide +kernel
theorem d_Mo_putInOrder_102 : decode prog_13_method_13_code 102 = .ok (.if_icmp .ge 83, 3) := by decide +kernel
theorem d_Mo_putInOrder_105 : decode prog_13_method_13_code 105 = .ok (.iload_n 3, 1) := by decide +kernel
theorem d_Mo_putInOrder_106 : decode prog_13_method_13_code 106 = .ok (.iload 4, 2) := by decide +kernel
theorem d_Mo_putInOrder_108 : decode prog_13_method_13_code 108 = .ok (.if_icmp .ge 34, 3) := by decide +kernel
theorem d_Mo_putInOrder_111 : decode prog_13_method_13_code 111 = .ok (.iload 5, 2) := by decide +kernel
theorem d_Mo_putInOrder_113 : decode prog_13_method_13_code 113 = .ok (.iload 6, 2) := by decide +kernel
theorem d_Mo_putInOrder_115 : decode prog_13_method_13_code 115 = .ok (.if_icmp .ge 23, 3) := by decide +kernel
theorem d_Mo_putInOrder_118 : decode prog_13_method_13_code 118 = .ok (.aload_n 0, 1) := by decide +kernel
theorem d_Mo_putInOrder_119 : decode prog_13_method_13_code 119 = .ok (.aload_n 0, 1) := by decide +kernel
theorem d_Mo_putInOrder_120 : decode prog_13_method_13_code 120 = .ok (.getfield 16, 3) := by decide +kernel
theorem d_Mo_putInOrder_123 : decode prog_13_method_13_code 123 = .ok (.iload_n 3, 1) := by decide +kernel
theorem d_Mo_putInOrder_124 : decode prog_13_method_13_code 124 = .ok (.iaload, 1) := by decide +kernel
theorem d_Mo_putInOrder_125 : decode prog_13_method_13_code 125 = .ok (.aload_n 0, 1) := by decide +kernel
theorem d_Mo_putInOrder_126 : decode prog_13_method_13_code 126 = .ok (.getfield 16, 3) := by decide +kernel
theorem d_Mo_putInOrder_129 : decode prog_13_method_13_code 129 = .ok (.iload 5, 2) := by decide +kernel
theorem d_Mo_putInOrder_131 : decode prog_13_method_13_code 131 = .ok (.iaload, 1) := by decide +kernel
theorem d_Mo_putInOrder_132 : decode prog_13_method_13_code 132 = .ok (.invokevirtual 97, 3) := by decide +kernel
theorem d_Mo_putInOrder_135 : decode prog_13_method_13_code 135 = .ok (.ifCond .ne 7, 3) := by decide +kernel
theorem d_Mo_putInOrder_138 : decode prog_13_method_13_code 138 = .ok (.iconst 1, 1) := by decide +kernel
theorem d_Mo_putInOrder_139 : decode prog_13_method_13_code 139 = .ok (.goto 4, 3) := by decide +kernel
theorem d_Mo_putInOrder_142 : decode prog_13_method_13_code 142 = .ok (.iconst 0, 1) := by decide +kernel
theorem d_Mo_putInOrder_143 : decode prog_13_method_13_code 143 = .ok (.istore 8, 2) := by decide +kernel
theorem d_Mo_putInOrder_145 : decode prog_13_method_13_code 145 = .ok (.aload_n 0, 1) := by decide +kernel
theorem d_Mo_putInOrder_146 : decode prog_13_method_13_code 146 = .ok (.getfield 19, 3) := by decide +kernel
theorem d_Mo_putInOrder_149 : decode prog_13_method_13_code 149 = .ok (.iload 7, 2) := by decide +kernel
theorem d_Mo_putInOrder_151 : decode prog_13_method_13_code 151 = .ok (.iload 8, 2) := by decide +kernel
theorem d_Mo_putInOrder_153 : decode prog_13_method_13_code 153 = .ok (.ifCond .eq 15, 3) := by decide +kernel
theorem d_Mo_putInOrder_156 : decode prog_13_method_13_code 156 = .ok (.aload_n 0, 1) := by decide +kernel
theorem d_Mo_putInOrder_157 : decode prog_13_method_13_code 157 = .ok (.getfield 16, 3) := by decide +kernel
theorem d_Mo_putInOrder_160 : decode prog_13_method_13_code 160 = .ok (.iload_n 3, 1) := by decide +kernel
theorem d_Mo_putInOrder_161 : decode prog_13_method_13_code 161 = .ok (.iinc 3 1, 3) := by decide +kernel
theorem d_Mo_putInOrder_164 : decode prog_13_method_13_code 164 = .ok (.iaload, 1) := by decide +kernel
theorem d_Mo_putInOrder_165 : decode prog_13_method_13_code 165 = .ok (.goto 13, 3) := by decide +kernel
theorem d_Mo_putInOrder_168 : decode prog_13_method_13_code 168 = .ok (.aload_n 0, 1) := by decide +kernel
theorem d_Mo_putInOrder_169 : decode prog_13_method_13_code 169 = .ok (.getfield 16, 3) := by decide +kernel
theorem d_Mo_putInOrder_172 : decode prog_13_method_13_code 172 = .ok (.iload 5, 2) := by decide +kernel
theorem d_Mo_putInOrder_174 : decode prog_13_method_13_code 174 = .ok (.iinc 5 1, 3) := by decide +kernel
theorem d_Mo_putInOrder_177 : decode prog_13_method_13_code 177 = .ok (.iaload, 1) := by decide +kernel
theorem d_Mo_putInOrder_178 : decode prog_13_method_13_code 178 = .ok (.iastore, 1) := by decide +kernel
theorem d_Mo_putInOrder_179 : decode prog_13_method_13_code 179 = .ok (.iinc 7 1, 3) := by decide +kernel
theorem d_Mo_putInOrder_182 : decode prog_13_method_13_code 182 = .ok (.goto (-84), 3) := by decide +kernel
theorem d_Mo_putInOrder_185 : decode prog_13_method_13_code 185 = .ok (.iload_n 2, 1) := by decide +kernel
theorem d_Mo_putInOrder_186 : decode prog_13_method_13_code 186 = .ok (.iconst 2, 1) := by decide +kernel
theorem d_Mo_putInOrder_187 : decode prog_13_method_13_code 187 = .ok (.iload_n 1, 1) := by decide +kernel
theorem d_Mo_putInOrder_188 : decode prog_13_method_13_code 188 = .ok (.imul, 1) := by decide +kernel
theorem d_Mo_putInOrder_189 : decode prog_13_method_13_code 189 = .ok (.iadd, 1) := by decide +kernel
theorem d_Mo_putInOrder_190 : decode prog_13_method_13_code 190 = .ok (.istore_n 2, 1) := by decide +kernel
theorem d_Mo_putInOrder_191 : decode prog_13_method_13_code 191 = .ok (.goto (-156), 3) := by decide +kernel
theorem d_Mo_putInOrder_194 : decode prog_13_method_13_code 194 = .ok (.iconst 0, 1) := by decide +kernel
theorem d_Mo_putInOrder_195 : decode prog_13_method_13_code 195 = .ok (.istore_n 2, 1) := by decide +kernel
theorem d_Mo_putInOrder_196 : decode prog_13_method_13_code 196 = .ok (.iload_n 2, 1) := by decide +kernel
theorem d_Mo_putInOrder_197 : decode prog_13_method_13_code 197 = .ok (.aload_n 0, 1) := by decide +kernel
theorem d_Mo_putInOrder_198 : decode prog_13_method_13_code 198 = .ok (.getfield 87, 3) := by decide +kernel
theorem d_Mo_putInOrder_201 : decode prog_13_method_13_code 201 = .ok (.if_icmp .ge 21, 3) := by decide +kernel
theorem d_Mo_putInOrder_204 : decode prog_13_method_13_code 204 = .ok (.aload_n 0, 1) := by decide +kernel
theorem d_Mo_putInOrder_205 : decode prog_13_method_13_code 205 = .ok (.getfield 16, 3) := by decide +kernel
theorem d_Mo_putInOrder_208 : decode prog_13_method_13_code 208 = .ok (.iload_n 2, 1) := by decide +kernel
theorem d_Mo_putInOrder_209 : decode prog_13_method_13_code 209 = .ok (.aload_n 0, 1) := by decide +kernel
theorem d_Mo_putInOrder_210 : decode prog_13_method_13_code 210 = .ok (.getfield 19, 3) := by decide +kernel
theorem d_Mo_putInOrder_213 : decode prog_13_method_13_code 213 = .ok (.iload_n 2, 1) := by decide +kernel
theorem d_Mo_putInOrder_214 : decode prog_13_method_13_code 214 = .ok (.iaload, 1) := by decide +kernel
theorem d_Mo_putInOrder_215 : decode prog_13_method_13_code 215 = .ok (.iastore, 1) := by decide +kernel
theorem d_Mo_putInOrder_216 : decode prog_13_method_13_code 216 = .ok (.iinc 2 1, 3) := by decide +kernel
theorem d_Mo_putInOrder_219 : decode prog_13_method_13_code 219 = .ok (.goto (-23), 3) := by decide +kernel
theorem d_Mo_putInOrder_222 : decode prog_13_method_13_code 222 = .ok (.iload_n 1, 1) := by decide +kernel
theorem d_Mo_putInOrder_223 : decode prog_13_method_13_code 223 = .ok (.iconst 2, 1) := by decide +kernel
theorem d_Mo_putInOrder_224 : decode prog_13_method_13_code 224 = .ok (.imul, 1) := by decide +kernel
theorem d_Mo_putInOrder_225 : decode prog_13_method_13_code 225 = .ok (.istore_n 1, 1) := by decide +kernel
theorem d_Mo_putInOrder_226 : decode prog_13_method_13_code 226 = .ok (.goto (-201), 3) := by decide +kernel
theorem d_Mo_putInOrder_229 : decode prog_13_method_13_code 229 = .ok (.return_, 1) := by decide +kernel
theorem d_Mo_lastAt_0 : decode prog_13_method_14_code 0 = .ok (.aload_n 0, 1) := by decide +kernel
theorem d_Mo_lastAt_1 : decode prog_13_method_14_code 1 = .ok (.getfield 13, 3) := by decide +kernel
theorem d_Mo_lastAt_4 : decode prog_13_method_14_code 4 = .ok (.aload_n 0, 1) := by decide +kernel
theorem d_Mo_lastAt_5 : decode prog_13_method_14_code 5 = .ok (.getfield 16, 3) := by decide +kernel
theorem d_Mo_lastAt_8 : decode prog_13_method_14_code 8 = .ok (.iload_n 1, 1) := by decide +kernel
theorem d_Mo_lastAt_9 : decode prog_13_method_14_code 9 = .ok (.iaload, 1) := by decide +kernel
theorem d_Mo_lastAt_10 : decode prog_13_method_14_code 10 = .ok (.aload_n 0, 1) := by decide +kernel
theorem d_Mo_lastAt_11 : decode prog_13_method_14_code 11 = .ok (.getfield 87, 3) := by decide +kernel
theorem d_Mo_lastAt_14 : decode prog_13_method_14_code 14 = .ok (.iadd, 1) := by decide +kernel
theorem d_Mo_lastAt_15 : decode prog_13_method_14_code 15 = .ok (.iconst 1, 1) := by decide +kernel
theorem d_Mo_lastAt_16 : decode prog_13_method_14_code 16 = .ok (.isub, 1) := by decide +kernel
theorem d_Mo_lastAt_17 : decode prog_13_method_14_code 17 = .ok (.aload_n 0, 1) := by decide +kernel
theorem d_Mo_lastAt_18 : decode prog_13_method_14_code 18 = .ok (.getfield 87, 3) := by decide +kernel
theorem d_Mo_lastAt_21 : decode prog_13_method_14_code 21 = .ok (.irem, 1) := by decide +kernel
theorem d_Mo_lastAt_22 : decode prog_13_method_14_code 22 = .ok (.iaload, 1) := by decide +kernel
theorem d_Mo_lastAt_23 : decode prog_13_method_14_code 23 = .ok (.ireturn, 1) := by decide +kernel
theorem d_Mo_originOf_0 : decode prog_13_method_15_code 0 = .ok (.iconst 0, 1) := by decide +kernel
theorem d_Mo_originOf_1 : decode prog_13_method_15_code 1 = .ok (.istore_n 1, 1) := by decide +kernel
theorem d_Mo_originOf_2 : decode prog_13_method_15_code 2 = .ok (.iload_n 1, 1) := by decide +kernel
theorem d_Mo_originOf_3 : decode prog_13_method_15_code 3 = .ok (.aload_n 0, 1) := by decide +kernel
theorem d_Mo_originOf_4 : decode prog_13_method_15_code 4 = .ok (.getfield 87, 3) := by decide +kernel
theorem d_Mo_originOf_7 : decode prog_13_method_15_code 7 = .ok (.if_icmp .ge 20, 3) := by decide +kernel
theorem d_Mo_originOf_10 : decode prog_13_method_15_code 10 = .ok (.aload_n 0, 1) := by decide +kernel
theorem d_Mo_originOf_11 : decode prog_13_method_15_code 11 = .ok (.getfield 16, 3) := by decide +kernel
theorem d_Mo_originOf_14 : decode prog_13_method_15_code 14 = .ok (.iload_n 1, 1) := by decide +kernel
theorem d_Mo_originOf_15 : decode prog_13_method_15_code 15 = .ok (.iaload, 1) := by decide +kernel
theorem d_Mo_originOf_16 : decode prog_13_method_15_code 16 = .ok (.ifCond .ne 5, 3) := by decide +kernel
theorem d_Mo_originOf_19 : decode prog_13_method_15_code 19 = .ok (.iload_n 1, 1) := by decide +kernel
theorem d_Mo_originOf_20 : decode prog_13_method_15_code 20 = .ok (.ireturn, 1) := by decide +kernel
theorem d_Mo_originOf_21 : decode prog_13_method_15_code 21 = .ok (.iinc 1 1, 3) := by decide +kernel
theorem d_Mo_originOf_24 : decode prog_13_method_15_code 24 = .ok (.goto (-22), 3) := by decide +kernel
theorem d_Mo_originOf_27 : decode prog_13_method_15_code 27 = .ok (.bipush (-2), 2) := by decide +kernel
theorem d_Mo_originOf_29 : decode prog_13_method_15_code 29 = .ok (.ireturn, 1) := by decide +kernel
theorem d_Mo_lay_0 : decode prog_13_method_16_code 0 = .ok (.aload_n 0, 1) := by decide +kernel
theorem d_Mo_lay_1 : decode prog_13_method_16_code 1 = .ok (.getfield 81, 3) := by decide +kernel
theorem d_Mo_lay_4 : decode prog_13_method_16_code 4 = .ok (.ifCond .eq 4, 3) := by decide +kernel
theorem d_Mo_lay_7 : decode prog_13_method_16_code 7 = .ok (.return_, 1) := by decide +kernel
theorem d_Mo_lay_8 : decode prog_13_method_16_code 8 = .ok (.aload_n 0, 1) := by decide +kernel
theorem d_Mo_lay_9 : decode prog_13_method_16_code 9 = .ok (.invokevirtual 101, 3) := by decide +kernel
theorem d_Mo_lay_12 : decode prog_13_method_16_code 12 = .ok (.aload_n 0, 1) := by decide +kernel
theorem d_Mo_lay_13 : decode prog_13_method_16_code 13 = .ok (.invokevirtual 104, 3) := by decide +kernel
theorem d_Mo_lay_16 : decode prog_13_method_16_code 16 = .ok (.aload_n 0, 1) := by decide +kernel
theorem d_Mo_lay_17 : decode prog_13_method_16_code 17 = .ok (.aload_n 0, 1) := by decide +kernel
theorem d_Mo_lay_18 : decode prog_13_method_16_code 18 = .ok (.invokevirtual 107, 3) := by decide +kernel
theorem d_Mo_lay_21 : decode prog_13_method_16_code 21 = .ok (.putfield 111, 3) := by decide +kernel
theorem d_Mo_lay_24 : decode prog_13_method_16_code 24 = .ok (.iconst 0, 1) := by decide +kernel
theorem d_Mo_lay_25 : decode prog_13_method_16_code 25 = .ok (.istore_n 1, 1) := by decide +kernel
theorem d_Mo_lay_26 : decode prog_13_method_16_code 26 = .ok (.iconst 0, 1) := by decide +kernel
theorem d_Mo_lay_27 : decode prog_13_method_16_code 27 = .ok (.istore_n 2, 1) := by decide +kernel
theorem d_Mo_lay_28 : decode prog_13_method_16_code 28 = .ok (.iload_n 2, 1) := by decide +kernel
theorem d_Mo_lay_29 : decode prog_13_method_16_code 29 = .ok (.aload_n 0, 1) := by decide +kernel
theorem d_Mo_lay_30 : decode prog_13_method_16_code 30 = .ok (.getfield 87, 3) := by decide +kernel
theorem d_Mo_lay_33 : decode prog_13_method_16_code 33 = .ok (.if_icmp .ge 70, 3) := by decide +kernel
theorem d_Mo_lay_36 : decode prog_13_method_16_code 36 = .ok (.aload_n 0, 1) := by decide +kernel
theorem d_Mo_lay_37 : decode prog_13_method_16_code 37 = .ok (.getfield 22, 3) := by decide +kernel
theorem d_Mo_lay_40 : decode prog_13_method_16_code 40 = .ok (.iload_n 2, 1) := by decide +kernel
theorem d_Mo_lay_41 : decode prog_13_method_16_code 41 = .ok (.aload_n 0, 1) := by decide +kernel
theorem d_Mo_lay_42 : decode prog_13_method_16_code 42 = .ok (.getfield 16, 3) := by decide +kernel
theorem d_Mo_lay_45 : decode prog_13_method_16_code 45 = .ok (.iload_n 2, 1) := by decide +kernel
theorem d_Mo_lay_46 : decode prog_13_method_16_code 46 = .ok (.iaload, 1) := by decide +kernel
theorem d_Mo_lay_47 : decode prog_13_method_16_code 47 = .ok (.iastore, 1) := by decide +kernel
theorem d_Mo_lay_48 : decode prog_13_method_16_code 48 = .ok (.iload_n 2, 1) := by decide +kernel
theorem d_Mo_lay_49 : decode prog_13_method_16_code 49 = .ok (.ifCond .ne 10, 3) := by decide +kernel
theorem d_Mo_lay_52 : decode prog_13_method_16_code 52 = .ok (.aload_n 0, 1) := by decide +kernel
theorem d_Mo_lay_53 : decode prog_13_method_16_code 53 = .ok (.getfield 87, 3) := by decide +kernel
theorem d_Mo_lay_56 : decode prog_13_method_16_code 56 = .ok (.goto 21, 3) := by decide +kernel
theorem d_Mo_lay_59 : decode prog_13_method_16_code 59 = .ok (.aload_n 0, 1) := by decide +kernel
theorem d_Mo_lay_60 : decode prog_13_method_16_code 60 = .ok (.aload_n 0, 1) := by decide +kernel
theorem d_Mo_lay_61 : decode prog_13_method_16_code 61 = .ok (.getfield 16, 3) := by decide +kernel
theorem d_Mo_lay_64 : decode prog_13_method_16_code 64 = .ok (.iload_n 2, 1) := by decide +kernel
theorem d_Mo_lay_65 : decode prog_13_method_16_code 65 = .ok (.iconst 1, 1) := by decide +kernel
theorem d_Mo_lay_66 : decode prog_13_method_16_code 66 = .ok (.isub, 1) := by decide +kernel
theorem d_Mo_lay_67 : decode prog_13_method_16_code 67 = .ok (.iaload, 1) := by decide +kernel
theorem d_Mo_lay_68 : decode prog_13_method_16_code 68 = .ok (.aload_n 0, 1) := by decide +kernel
theorem d_Mo_lay_69 : decode prog_13_method_16_code 69 = .ok (.getfield 16, 3) := by decide +kernel
theorem d_Mo_lay_72 : decode prog_13_method_16_code 72 = .ok (.iload_n 2, 1) := by decide +kernel
theorem d_Mo_lay_73 : decode prog_13_method_16_code 73 = .ok (.iaload, 1) := by decide +kernel
theorem d_Mo_lay_74 : decode prog_13_method_16_code 74 = .ok (.invokevirtual 93, 3) := by decide +kernel
theorem d_Mo_lay_77 : decode prog_13_method_16_code 77 = .ok (.istore_n 3, 1) := by decide +kernel
theorem d_Mo_lay_78 : decode prog_13_method_16_code 78 = .ok (.iload_n 3, 1) := by decide +kernel
theorem d_Mo_lay_79 : decode prog_13_method_16_code 79 = .ok (.aload_n 0, 1) := by decide +kernel
theorem d_Mo_lay_80 : decode prog_13_method_16_code 80 = .ok (.getfield 87, 3) := by decide +kernel
theorem d_Mo_lay_83 : decode prog_13_method_16_code 83 = .ok (.if_icmp .ge 14, 3) := by decide +kernel
theorem d_Mo_lay_86 : decode prog_13_method_16_code 86 = .ok (.iload_n 3, 1) := by decide +kernel
theorem d_Mo_lay_87 : decode prog_13_method_16_code 87 = .ok (.iconst 1, 1) := by decide +kernel
theorem d_Mo_lay_88 : decode prog_13_method_16_code 88 = .ok (.iadd, 1) := by decide +kernel
theorem d_Mo_lay_89 : decode prog_13_method_16_code 89 = .ok (.iload_n 1, 1) := by decide +kernel
theorem d_Mo_lay_90 : decode prog_13_method_16_code 90 = .ok (.if_icmp .le 7, 3) := by decide +kernel
theorem d_Mo_lay_93 : decode prog_13_method_16_code 93 = .ok (.iload_n 3, 1) := by decide +kernel
theorem d_Mo_lay_94 : decode prog_13_method_16_code 94 = .ok (.iconst 1, 1) := by decide +kernel
theorem d_Mo_lay_95 : decode prog_13_method_16_code 95 = .ok (.iadd, 1) := by decide +kernel
theorem d_Mo_lay_96 : decode prog_13_method_16_code 96 = .ok (.istore_n 1, 1) := by decide +kernel
theorem d_Mo_lay_97 : decode prog_13_method_16_code 97 = .ok (.iinc 2 1, 3) := by decide +kernel
theorem d_Mo_lay_100 : decode prog_13_method_16_code 100 = .ok (.goto (-72), 3) := by decide +kernel
theorem d_Mo_lay_103 : decode prog_13_method_16_code 103 = .ok (.aload_n 0, 1) := by decide +kernel
theorem d_Mo_lay_104 : decode prog_13_method_16_code 104 = .ok (.iconst 0, 1) := by decide +kernel
theorem d_Mo_lay_105 : decode prog_13_method_16_code 105 = .ok (.putfield 114, 3) := by decide +kernel
theorem d_Mo_lay_108 : decode prog_13_method_16_code 108 = .ok (.iconst 1, 1) := by decide +kernel
theorem d_Mo_lay_109 : decode prog_13_method_16_code 109 = .ok (.aload_n 0, 1) := by decide +kernel
theorem d_Mo_lay_110 : decode prog_13_method_16_code 110 = .ok (.getfield 114, 3) := by decide +kernel
theorem d_Mo_lay_113 : decode prog_13_method_16_code 113 = .ok (.ishl, 1) := by decide +kernel
theorem d_Mo_lay_114 : decode prog_13_method_16_code 114 = .ok (.iload_n 1, 1) := by decide +kernel
theorem d_Mo_lay_115 : decode prog_13_method_16_code 115 = .ok (.if_icmp .ge 16, 3) := by decide +kernel
theorem d_Mo_lay_118 : decode prog_13_method_16_code 118 = .ok (.aload_n 0, 1) := by decide +kernel
theorem d_Mo_lay_119 : decode prog_13_method_16_code 119 = .ok (.dup, 1) := by decide +kernel
theorem d_Mo_lay_120 : decode prog_13_method_16_code 120 = .ok (.getfield 114, 3) := by decide +kernel
theorem d_Mo_lay_123 : decode prog_13_method_16_code 123 = .ok (.iconst 1, 1) := by decide +kernel
theorem d_Mo_lay_124 : decode prog_13_method_16_code 124 = .ok (.iadd, 1) := by decide +kernel
theorem d_Mo_lay_125 : decode prog_13_method_16_code 125 = .ok (.putfield 114, 3) := by decide +kernel
theorem d_Mo_lay_128 : decode prog_13_method_16_code 128 = .ok (.goto (-20), 3) := by decide +kernel
theorem d_Mo_lay_131 : decode prog_13_method_16_code 131 = .ok (.aload_n 0, 1) := by decide +kernel
theorem d_Mo_lay_132 : decode prog_13_method_16_code 132 = .ok (.iconst 1, 1) := by decide +kernel
theorem d_Mo_lay_133 : decode prog_13_method_16_code 133 = .ok (.putfield 81, 3) := by decide +kernel
theorem d_Mo_lay_136 : decode prog_13_method_16_code 136 = .ok (.return_, 1) := by decide +kernel
theorem d_Mo_order_0 : decode prog_13_method_17_code 0 = .ok (.aload_n 0, 1) := by decide +kernel
theorem d_Mo_order_1 : decode prog_13_method_17_code 1 = .ok (.invokevirtual 117, 3) := by decide +kernel
theorem d_Mo_order_4 : decode prog_13_method_17_code 4 = .ok (.iload_n 1, 1) := by decide +kernel
theorem d_Mo_order_5 : decode prog_13_method_17_code 5 = .ok (.i2l, 1) := by decide +kernel
theorem d_Mo_order_6 : decode prog_13_method_17_code 6 = .ok (.lconst 0, 1) := by decide +kernel
theorem d_Mo_order_7 : decode prog_13_method_17_code 7 = .ok (.aload_n 0, 1) := by decide +kernel
theorem d_Mo_order_8 : decode prog_13_method_17_code 8 = .ok (.getfield 76, 3) := by decide +kernel
theorem d_Mo_order_11 : decode prog_13_method_17_code 11 = .ok (.iconst 1, 1) := by decide +kernel
theorem d_Mo_order_12 : decode prog_13_method_17_code 12 = .ok (.isub, 1) := by decide +kernel
theorem d_Mo_order_13 : decode prog_13_method_17_code 13 = .ok (.i2l, 1) := by decide +kernel
theorem d_Mo_order_14 : decode prog_13_method_17_code 14 = .ok (.invokestatic 72, 3) := by decide +kernel
theorem d_Mo_order_17 : decode prog_13_method_17_code 17 = .ok (.ifCond .eq 12, 3) := by decide +kernel
theorem d_Mo_order_20 : decode prog_13_method_17_code 20 = .ok (.aload_n 0, 1) := by decide +kernel
theorem d_Mo_order_21 : decode prog_13_method_17_code 21 = .ok (.getfield 22, 3) := by decide +kernel
theorem d_Mo_order_24 : decode prog_13_method_17_code 24 = .ok (.iload_n 1, 1) := by decide +kernel
theorem d_Mo_order_25 : decode prog_13_method_17_code 25 = .ok (.iaload, 1) := by decide +kernel
theorem d_Mo_order_26 : decode prog_13_method_17_code 26 = .ok (.goto 5, 3) := by decide +kernel
theorem d_Mo_order_29 : decode prog_13_method_17_code 29 = .ok (.bipush (-2), 2) := by decide +kernel
theorem d_Mo_order_31 : decode prog_13_method_17_code 31 = .ok (.ireturn, 1) := by decide +kernel
theorem d_Mo_last_0 : decode prog_13_method_18_code 0 = .ok (.aload_n 0, 1) := by decide +kernel
theorem d_Mo_last_1 : decode prog_13_method_18_code 1 = .ok (.invokevirtual 117, 3) := by decide +kernel
theorem d_Mo_last_4 : decode prog_13_method_18_code 4 = .ok (.iload_n 1, 1) := by decide +kernel
theorem d_Mo_last_5 : decode prog_13_method_18_code 5 = .ok (.i2l, 1) := by decide +kernel
theorem d_Mo_last_6 : decode prog_13_method_18_code 6 = .ok (.lconst 0, 1) := by decide +kernel
theorem d_Mo_last_7 : decode prog_13_method_18_code 7 = .ok (.aload_n 0, 1) := by decide +kernel
theorem d_Mo_last_8 : decode prog_13_method_18_code 8 = .ok (.getfield 76, 3) := by decide +kernel
theorem d_Mo_last_11 : decode prog_13_method_18_code 11 = .ok (.iconst 1, 1) := by decide +kernel
theorem d_Mo_last_12 : decode prog_13_method_18_code 12 = .ok (.isub, 1) := by decide +kernel
theorem d_Mo_last_13 : decode prog_13_method_18_code 13 = .ok (.i2l, 1) := by decide +kernel
theorem d_Mo_last_14 : decode prog_13_method_18_code 14 = .ok (.invokestatic 72, 3) := by decide +kernel
theorem d_Mo_last_17 : decode prog_13_method_18_code 17 = .ok (.ifCond .eq 29, 3) := by decide +kernel
theorem d_Mo_last_20 : decode prog_13_method_18_code 20 = .ok (.aload_n 0, 1) := by decide +kernel
theorem d_Mo_last_21 : decode prog_13_method_18_code 21 = .ok (.getfield 7, 3) := by decide +kernel
theorem d_Mo_last_24 : decode prog_13_method_18_code 24 = .ok (.aload_n 0, 1) := by decide +kernel
theorem d_Mo_last_25 : decode prog_13_method_18_code 25 = .ok (.getfield 22, 3) := by decide +kernel
theorem d_Mo_last_28 : decode prog_13_method_18_code 28 = .ok (.iload_n 1, 1) := by decide +kernel
theorem d_Mo_last_29 : decode prog_13_method_18_code 29 = .ok (.iaload, 1) := by decide +kernel
theorem d_Mo_last_30 : decode prog_13_method_18_code 30 = .ok (.aload_n 0, 1) := by decide +kernel
theorem d_Mo_last_31 : decode prog_13_method_18_code 31 = .ok (.getfield 76, 3) := by decide +kernel
theorem d_Mo_last_34 : decode prog_13_method_18_code 34 = .ok (.iadd, 1) := by decide +kernel
theorem d_Mo_last_35 : decode prog_13_method_18_code 35 = .ok (.iconst 1, 1) := by decide +kernel
theorem d_Mo_last_36 : decode prog_13_method_18_code 36 = .ok (.isub, 1) := by decide +kernel
theorem d_Mo_last_37 : decode prog_13_method_18_code 37 = .ok (.aload_n 0, 1) := by decide +kernel
theorem d_Mo_last_38 : decode prog_13_method_18_code 38 = .ok (.getfield 76, 3) := by decide +kernel
theorem d_Mo_last_41 : decode prog_13_method_18_code 41 = .ok (.irem, 1) := by decide +kernel
theorem d_Mo_last_42 : decode prog_13_method_18_code 42 = .ok (.iaload, 1) := by decide +kernel
theorem d_Mo_last_43 : decode prog_13_method_18_code 43 = .ok (.goto 5, 3) := by decide +kernel
theorem d_Mo_last_46 : decode prog_13_method_18_code 46 = .ok (.bipush (-2), 2) := by decide +kernel
theorem d_Mo_last_48 : decode prog_13_method_18_code 48 = .ok (.ireturn, 1) := by decide +kernel
theorem d_Mo_origin_0 : decode prog_13_method_19_code 0 = .ok (.aload_n 0, 1) := by decide +kernel
theorem d_Mo_origin_1 : decode prog_13_method_19_code 1 = .ok (.invokevirtual 117, 3) := by decide +kernel
theorem d_Mo_origin_4 : decode prog_13_method_19_code 4 = .ok (.aload_n 0, 1) := by decide +kernel
theorem d_Mo_origin_5 : decode prog_13_method_19_code 5 = .ok (.getfield 76, 3) := by decide +kernel
theorem d_Mo_origin_8 : decode prog_13_method_19_code 8 = .ok (.ifCond .ne 8, 3) := by decide +kernel
theorem d_Mo_origin_11 : decode prog_13_method_19_code 11 = .ok (.bipush (-2), 2) := by decide +kernel
theorem d_Mo_origin_13 : decode prog_13_method_19_code 13 = .ok (.goto 7, 3) := by decide +kernel
theorem d_Mo_origin_16 : decode prog_13_method_19_code 16 = .ok (.aload_n 0, 1) := by decide +kernel
theorem d_Mo_origin_17 : decode prog_13_method_19_code 17 = .ok (.getfield 111, 3) := by decide +kernel
theorem d_Mo_origin_20 : decode prog_13_method_19_code 20 = .ok (.ireturn, 1) := by decide +kernel
theorem d_Mo_rounds_0 : decode prog_13_method_20_code 0 = .ok (.aload_n 0, 1) := by decide +kernel
theorem d_Mo_rounds_1 : decode prog_13_method_20_code 1 = .ok (.invokevirtual 117, 3) := by decide +kernel
theorem d_Mo_rounds_4 : decode prog_13_method_20_code 4 = .ok (.aload_n 0, 1) := by decide +kernel
theorem d_Mo_rounds_5 : decode prog_13_method_20_code 5 = .ok (.getfield 76, 3) := by decide +kernel
theorem d_Mo_rounds_8 : decode prog_13_method_20_code 8 = .ok (.ifCond .ne 8, 3) := by decide +kernel
theorem d_Mo_rounds_11 : decode prog_13_method_20_code 11 = .ok (.bipush (-2), 2) := by decide +kernel
theorem d_Mo_rounds_13 : decode prog_13_method_20_code 13 = .ok (.goto 7, 3) := by decide +kernel
theorem d_Mo_rounds_16 : decode prog_13_method_20_code 16 = .ok (.aload_n 0, 1) := by decide +kernel
theorem d_Mo_rounds_17 : decode prog_13_method_20_code 17 = .ok (.getfield 114, 3) := by decide +kernel
theorem d_Mo_rounds_20 : decode prog_13_method_20_code 20 = .ok (.ireturn, 1) := by decide +kernel
theorem d_Mo_start_0 : decode prog_13_method_21_code 0 = .ok (.iload_n 1, 1) := by decide +kernel
theorem d_Mo_start_1 : decode prog_13_method_21_code 1 = .ok (.i2l, 1) := by decide +kernel
theorem d_Mo_start_2 : decode prog_13_method_21_code 2 = .ok (.lconst 1, 1) := by decide +kernel
theorem d_Mo_start_3 : decode prog_13_method_21_code 3 = .ok (.ldc2_w 120, 3) := by decide +kernel
theorem d_Mo_start_6 : decode prog_13_method_21_code 6 = .ok (.invokestatic 72, 3) := by decide +kernel
theorem d_Mo_start_9 : decode prog_13_method_21_code 9 = .ok (.ifCond .eq 16, 3) := by decide +kernel
theorem d_Mo_start_12 : decode prog_13_method_21_code 12 = .ok (.iload_n 2, 1) := by decide +kernel
theorem d_Mo_start_13 : decode prog_13_method_21_code 13 = .ok (.i2l, 1) := by decide +kernel
theorem d_Mo_start_14 : decode prog_13_method_21_code 14 = .ok (.lconst 0, 1) := by decide +kernel
theorem d_Mo_start_15 : decode prog_13_method_21_code 15 = .ok (.iload_n 1, 1) := by decide +kernel
theorem d_Mo_start_16 : decode prog_13_method_21_code 16 = .ok (.iconst 1, 1) := by decide +kernel
theorem d_Mo_start_17 : decode prog_13_method_21_code 17 = .ok (.isub, 1) := by decide +kernel
theorem d_Mo_start_18 : decode prog_13_method_21_code 18 = .ok (.i2l, 1) := by decide +kernel
theorem d_Mo_start_19 : decode prog_13_method_21_code 19 = .ok (.invokestatic 72, 3) := by decide +kernel
theorem d_Mo_start_22 : decode prog_13_method_21_code 22 = .ok (.ifCond .ne 5, 3) := by decide +kernel
theorem d_Mo_start_25 : decode prog_13_method_21_code 25 = .ok (.iconst (-1), 1) := by decide +kernel
theorem d_Mo_start_26 : decode prog_13_method_21_code 26 = .ok (.ireturn, 1) := by decide +kernel
theorem d_Mo_start_27 : decode prog_13_method_21_code 27 = .ok (.aload_n 0, 1) := by decide +kernel
theorem d_Mo_start_28 : decode prog_13_method_21_code 28 = .ok (.getfield 76, 3) := by decide +kernel
theorem d_Mo_start_31 : decode prog_13_method_21_code 31 = .ok (.ifCond .ne 6, 3) := by decide +kernel
theorem d_Mo_start_34 : decode prog_13_method_21_code 34 = .ok (.bipush (-2), 2) := by decide +kernel
theorem d_Mo_start_36 : decode prog_13_method_21_code 36 = .ok (.ireturn, 1) := by decide +kernel
theorem d_Mo_start_37 : decode prog_13_method_21_code 37 = .ok (.aload_n 0, 1) := by decide +kernel
theorem d_Mo_start_38 : decode prog_13_method_21_code 38 = .ok (.invokevirtual 117, 3) := by decide +kernel
theorem d_Mo_start_41 : decode prog_13_method_21_code 41 = .ok (.iload_n 2, 1) := by decide +kernel
theorem d_Mo_start_42 : decode prog_13_method_21_code 42 = .ok (.aload_n 0, 1) := by decide +kernel
theorem d_Mo_start_43 : decode prog_13_method_21_code 43 = .ok (.getfield 76, 3) := by decide +kernel
theorem d_Mo_start_46 : decode prog_13_method_21_code 46 = .ok (.imul, 1) := by decide +kernel
theorem d_Mo_start_47 : decode prog_13_method_21_code 47 = .ok (.iload_n 1, 1) := by decide +kernel
theorem d_Mo_start_48 : decode prog_13_method_21_code 48 = .ok (.idiv, 1) := by decide +kernel
theorem d_Mo_start_49 : decode prog_13_method_21_code 49 = .ok (.istore_n 3, 1) := by decide +kernel
theorem d_Mo_start_50 : decode prog_13_method_21_code 50 = .ok (.iconst 0, 1) := by decide +kernel
theorem d_Mo_start_51 : decode prog_13_method_21_code 51 = .ok (.istore 4, 2) := by decide +kernel
theorem d_Mo_start_53 : decode prog_13_method_21_code 53 = .ok (.iload 4, 2) := by decide +kernel
theorem d_Mo_start_55 : decode prog_13_method_21_code 55 = .ok (.aload_n 0, 1) := by decide +kernel
theorem d_Mo_start_56 : decode prog_13_method_21_code 56 = .ok (.getfield 76, 3) := by decide +kernel
theorem d_Mo_start_59 : decode prog_13_method_21_code 59 = .ok (.if_icmp .ge 23, 3) := by decide +kernel
theorem d_Mo_start_62 : decode prog_13_method_21_code 62 = .ok (.aload_n 0, 1) := by decide +kernel
theorem d_Mo_start_63 : decode prog_13_method_21_code 63 = .ok (.getfield 22, 3) := by decide +kernel
theorem d_Mo_start_66 : decode prog_13_method_21_code 66 = .ok (.iload 4, 2) := by decide +kernel
theorem d_Mo_start_68 : decode prog_13_method_21_code 68 = .ok (.iaload, 1) := by decide +kernel
theorem d_Mo_start_69 : decode prog_13_method_21_code 69 = .ok (.iload_n 3, 1) := by decide +kernel
theorem d_Mo_start_70 : decode prog_13_method_21_code 70 = .ok (.if_icmp .ne 6, 3) := by decide +kernel
theorem d_Mo_start_73 : decode prog_13_method_21_code 73 = .ok (.iload 4, 2) := by decide +kernel
theorem d_Mo_start_75 : decode prog_13_method_21_code 75 = .ok (.ireturn, 1) := by decide +kernel
theorem d_Mo_start_76 : decode prog_13_method_21_code 76 = .ok (.iinc 4 1, 3) := by decide +kernel
theorem d_Mo_start_79 : decode prog_13_method_21_code 79 = .ok (.goto (-26), 3) := by decide +kernel
theorem d_Mo_start_82 : decode prog_13_method_21_code 82 = .ok (.bipush (-2), 2) := by decide +kernel
theorem d_Mo_start_84 : decode prog_13_method_21_code 84 = .ok (.ireturn, 1) := by decide +kernel
theorem d_Mo_steps_0 : decode prog_13_method_22_code 0 = .ok (.iload_n 3, 1) := by decide +kernel
theorem d_Mo_steps_1 : decode prog_13_method_22_code 1 = .ok (.i2l, 1) := by decide +kernel
theorem d_Mo_steps_2 : decode prog_13_method_22_code 2 = .ok (.lconst 1, 1) := by decide +kernel
theorem d_Mo_steps_3 : decode prog_13_method_22_code 3 = .ok (.ldc2_w 70, 3) := by decide +kernel
theorem d_Mo_steps_6 : decode prog_13_method_22_code 6 = .ok (.invokestatic 72, 3) := by decide +kernel
theorem d_Mo_steps_9 : decode prog_13_method_22_code 9 = .ok (.ifCond .eq 16, 3) := by decide +kernel
theorem d_Mo_steps_12 : decode prog_13_method_22_code 12 = .ok (.iload 4, 2) := by decide +kernel
theorem d_Mo_steps_14 : decode prog_13_method_22_code 14 = .ok (.i2l, 1) := by decide +kernel
theorem d_Mo_steps_15 : decode prog_13_method_22_code 15 = .ok (.lconst 0, 1) := by decide +kernel
theorem d_Mo_steps_16 : decode prog_13_method_22_code 16 = .ok (.ldc2_w 122, 3) := by decide +kernel
theorem d_Mo_steps_19 : decode prog_13_method_22_code 19 = .ok (.invokestatic 72, 3) := by decide +kernel
theorem d_Mo_steps_22 : decode prog_13_method_22_code 22 = .ok (.ifCond .ne 5, 3) := by decide +kernel
theorem d_Mo_steps_25 : decode prog_13_method_22_code 25 = .ok (.iconst (-1), 1) := by decide +kernel
theorem d_Mo_steps_26 : decode prog_13_method_22_code 26 = .ok (.ireturn, 1) := by decide +kernel
theorem d_Mo_steps_27 : decode prog_13_method_22_code 27 = .ok (.aload_n 0, 1) := by decide +kernel
theorem d_Mo_steps_28 : decode prog_13_method_22_code 28 = .ok (.invokevirtual 117, 3) := by decide +kernel
theorem d_Mo_steps_31 : decode prog_13_method_22_code 31 = .ok (.bipush (-2), 2) := by decide +kernel
theorem d_Mo_steps_33 : decode prog_13_method_22_code 33 = .ok (.istore 5, 2) := by decide +kernel
theorem d_Mo_steps_35 : decode prog_13_method_22_code 35 = .ok (.iconst 0, 1) := by decide +kernel
theorem d_Mo_steps_36 : decode prog_13_method_22_code 36 = .ok (.istore 6, 2) := by decide +kernel
theorem d_Mo_steps_38 : decode prog_13_method_22_code 38 = .ok (.iconst 0, 1) := by decide +kernel
theorem d_Mo_steps_39 : decode prog_13_method_22_code 39 = .ok (.istore 7, 2) := by decide +kernel
theorem d_Mo_steps_41 : decode prog_13_method_22_code 41 = .ok (.iload 7, 2) := by decide +kernel
theorem d_Mo_steps_43 : decode prog_13_method_22_code 43 = .ok (.aload_n 0, 1) := by decide +kernel
theorem d_Mo_steps_44 : decode prog_13_method_22_code 44 = .ok (.getfield 76, 3) := by decide +kernel
theorem d_Mo_steps_47 : decode prog_13_method_22_code 47 = .ok (.if_icmp .ge 119, 3) := by decide +kernel
theorem d_Mo_steps_50 : decode prog_13_method_22_code 50 = .ok (.iload_n 3, 1) := by decide +kernel
theorem d_Mo_steps_51 : decode prog_13_method_22_code 51 = .ok (.aload_n 0, 1) := by decide +kernel
theorem d_Mo_steps_52 : decode prog_13_method_22_code 52 = .ok (.getfield 76, 3) := by decide +kernel
theorem d_Mo_steps_55 : decode prog_13_method_22_code 55 = .ok (.if_icmp .gt 7, 3) := by decide +kernel
theorem d_Mo_steps_58 : decode prog_13_method_22_code 58 = .ok (.iconst 1, 1) := by decide +kernel
theorem d_Mo_steps_59 : decode prog_13_method_22_code 59 = .ok (.goto 4, 3) := by decide +kernel
theorem d_Mo_steps_62 : decode prog_13_method_22_code 62 = .ok (.iconst 0, 1) := by decide +kernel
theorem d_Mo_steps_63 : decode prog_13_method_22_code 63 = .ok (.istore 8, 2) := by decide +kernel
theorem d_Mo_steps_65 : decode prog_13_method_22_code 65 = .ok (.iconst 0, 1) := by decide +kernel
theorem d_Mo_steps_66 : decode prog_13_method_22_code 66 = .ok (.istore 9, 2) := by decide +kernel
theorem d_Mo_steps_68 : decode prog_13_method_22_code 68 = .ok (.iload 9, 2) := by decide +kernel
theorem d_Mo_steps_70 : decode prog_13_method_22_code 70 = .ok (.iload_n 3, 1) := by decide +kernel
theorem d_Mo_steps_71 : decode prog_13_method_22_code 71 = .ok (.if_icmp .ge 60, 3) := by decide +kernel
theorem d_Mo_steps_74 : decode prog_13_method_22_code 74 = .ok (.iload 8, 2) := by decide +kernel
theorem d_Mo_steps_76 : decode prog_13_method_22_code 76 = .ok (.ifCond .eq 55, 3) := by decide +kernel
theorem d_Mo_steps_79 : decode prog_13_method_22_code 79 = .ok (.aload_n 0, 1) := by decide +kernel
theorem d_Mo_steps_80 : decode prog_13_method_22_code 80 = .ok (.getfield 7, 3) := by decide +kernel
theorem d_Mo_steps_83 : decode prog_13_method_22_code 83 = .ok (.aload_n 0, 1) := by decide +kernel
theorem d_Mo_steps_84 : decode prog_13_method_22_code 84 = .ok (.getfield 22, 3) := by decide +kernel
theorem d_Mo_steps_87 : decode prog_13_method_22_code 87 = .ok (.iload 7, 2) := by decide +kernel
theorem d_Mo_steps_89 : decode prog_13_method_22_code 89 = .ok (.iaload, 1) := by decide +kernel
theorem d_Mo_steps_90 : decode prog_13_method_22_code 90 = .ok (.iload 9, 2) := by decide +kernel
theorem d_Mo_steps_92 : decode prog_13_method_22_code 92 = .ok (.iadd, 1) := by decide +kernel
theorem d_Mo_steps_93 : decode prog_13_method_22_code 93 = .ok (.aload_n 0, 1) := by decide +kernel
theorem d_Mo_steps_94 : decode prog_13_method_22_code 94 = .ok (.getfield 76, 3) := by decide +kernel
theorem d_Mo_steps_97 : decode prog_13_method_22_code 97 = .ok (.irem, 1) := by decide +kernel
theorem d_Mo_steps_98 : decode prog_13_method_22_code 98 = .ok (.iaload, 1) := by decide +kernel
theorem d_Mo_steps_99 : decode prog_13_method_22_code 99 = .ok (.lload_n 1, 1) := by decide +kernel
theorem d_Mo_steps_100 : decode prog_13_method_22_code 100 = .ok (.bipush 8, 2) := by decide +kernel
theorem d_Mo_steps_102 : decode prog_13_method_22_code 102 = .ok (.iload_n 3, 1) := by decide +kernel
theorem d_Mo_steps_103 : decode prog_13_method_22_code 103 = .ok (.iconst 1, 1) := by decide +kernel
theorem d_Mo_steps_104 : decode prog_13_method_22_code 104 = .ok (.isub, 1) := by decide +kernel
theorem d_Mo_steps_105 : decode prog_13_method_22_code 105 = .ok (.iload 9, 2) := by decide +kernel
theorem d_Mo_steps_107 : decode prog_13_method_22_code 107 = .ok (.isub, 1) := by decide +kernel
theorem d_Mo_steps_108 : decode prog_13_method_22_code 108 = .ok (.imul, 1) := by decide +kernel
theorem d_Mo_steps_109 : decode prog_13_method_22_code 109 = .ok (.lushr, 1) := by decide +kernel
theorem d_Mo_steps_110 : decode prog_13_method_22_code 110 = .ok (.ldc2_w 79, 3) := by decide +kernel
theorem d_Mo_steps_113 : decode prog_13_method_22_code 113 = .ok (.land, 1) := by decide +kernel
theorem d_Mo_steps_114 : decode prog_13_method_22_code 114 = .ok (.l2i, 1) := by decide +kernel
theorem d_Mo_steps_115 : decode prog_13_method_22_code 115 = .ok (.if_icmp .ne 7, 3) := by decide +kernel
theorem d_Mo_steps_118 : decode prog_13_method_22_code 118 = .ok (.iconst 1, 1) := by decide +kernel
theorem d_Mo_steps_119 : decode prog_13_method_22_code 119 = .ok (.goto 4, 3) := by decide +kernel
theorem d_Mo_steps_122 : decode prog_13_method_22_code 122 = .ok (.iconst 0, 1) := by decide +kernel
theorem d_Mo_steps_123 : decode prog_13_method_22_code 123 = .ok (.istore 8, 2) := by decide +kernel
theorem d_Mo_steps_125 : decode prog_13_method_22_code 125 = .ok (.iinc 9 1, 3) := by decide +kernel
theorem d_Mo_steps_128 : decode prog_13_method_22_code 128 = .ok (.goto (-60), 3) := by decide +kernel
theorem d_Mo_steps_131 : decode prog_13_method_22_code 131 = .ok (.iload 8, 2) := by decide +kernel
theorem d_Mo_steps_133 : decode prog_13_method_22_code 133 = .ok (.ifCond .eq 12, 3) := by decide +kernel
theorem d_Mo_steps_136 : decode prog_13_method_22_code 136 = .ok (.iload 6, 2) := by decide +kernel
theorem d_Mo_steps_138 : decode prog_13_method_22_code 138 = .ok (.ifCond .ne 7, 3) := by decide +kernel
theorem d_Mo_steps_141 : decode prog_13_method_22_code 141 = .ok (.iload 7, 2) := by decide +kernel
theorem d_Mo_steps_143 : decode prog_13_method_22_code 143 = .ok (.istore 5, 2) := by decide +kernel
theorem d_Mo_steps_145 : decode prog_13_method_22_code 145 = .ok (.iload 6, 2) := by decide +kernel
theorem d_Mo_steps_147 : decode prog_13_method_22_code 147 = .ok (.iload 8, 2) := by decide +kernel
theorem d_Mo_steps_149 : decode prog_13_method_22_code 149 = .ok (.ifCond .eq 7, 3) := by decide +kernel
theorem d_Mo_steps_152 : decode prog_13_method_22_code 152 = .ok (.iconst 1, 1) := by decide +kernel
theorem d_Mo_steps_153 : decode prog_13_method_22_code 153 = .ok (.goto 4, 3) := by decide +kernel
theorem d_Mo_steps_156 : decode prog_13_method_22_code 156 = .ok (.iconst 0, 1) := by decide +kernel
theorem d_Mo_steps_157 : decode prog_13_method_22_code 157 = .ok (.iadd, 1) := by decide +kernel
theorem d_Mo_steps_158 : decode prog_13_method_22_code 158 = .ok (.istore 6, 2) := by decide +kernel
theorem d_Mo_steps_160 : decode prog_13_method_22_code 160 = .ok (.iinc 7 1, 3) := by decide +kernel
theorem d_Mo_steps_163 : decode prog_13_method_22_code 163 = .ok (.goto (-122), 3) := by decide +kernel
theorem d_Mo_steps_166 : decode prog_13_method_22_code 166 = .ok (.iload 4, 2) := by decide +kernel
theorem d_Mo_steps_168 : decode prog_13_method_22_code 168 = .ok (.ifCond .ne 8, 3) := by decide +kernel
theorem d_Mo_steps_171 : decode prog_13_method_22_code 171 = .ok (.iload 5, 2) := by decide +kernel
theorem d_Mo_steps_173 : decode prog_13_method_22_code 173 = .ok (.goto 29, 3) := by decide +kernel
theorem d_Mo_steps_176 : decode prog_13_method_22_code 176 = .ok (.iload 4, 2) := by decide +kernel
theorem d_Mo_steps_178 : decode prog_13_method_22_code 178 = .ok (.iconst 1, 1) := by decide +kernel
theorem d_Mo_steps_179 : decode prog_13_method_22_code 179 = .ok (.if_icmp .ne 21, 3) := by decide +kernel
theorem d_Mo_steps_182 : decode prog_13_method_22_code 182 = .ok (.iload 6, 2) := by decide +kernel
theorem d_Mo_steps_184 : decode prog_13_method_22_code 184 = .ok (.ifCond .ne 8, 3) := by decide +kernel
theorem d_Mo_steps_187 : decode prog_13_method_22_code 187 = .ok (.bipush (-2), 2) := by decide +kernel
theorem d_Mo_steps_189 : decode prog_13_method_22_code 189 = .ok (.goto 13, 3) := by decide +kernel
theorem d_Mo_steps_192 : decode prog_13_method_22_code 192 = .ok (.iload 5, 2) := by decide +kernel
theorem d_Mo_steps_194 : decode prog_13_method_22_code 194 = .ok (.iload 6, 2) := by decide +kernel
theorem d_Mo_steps_196 : decode prog_13_method_22_code 196 = .ok (.iadd, 1) := by decide +kernel
theorem d_Mo_steps_197 : decode prog_13_method_22_code 197 = .ok (.goto 5, 3) := by decide +kernel
theorem d_Mo_steps_200 : decode prog_13_method_22_code 200 = .ok (.iload 6, 2) := by decide +kernel
theorem d_Mo_steps_202 : decode prog_13_method_22_code 202 = .ok (.ireturn, 1) := by decide +kernel
theorem d_Mo_nexts_0 : decode prog_13_method_23_code 0 = .ok (.iconst 0, 1) := by decide +kernel
theorem d_Mo_nexts_1 : decode prog_13_method_23_code 1 = .ok (.istore_n 1, 1) := by decide +kernel
theorem d_Mo_nexts_2 : decode prog_13_method_23_code 2 = .ok (.iconst 0, 1) := by decide +kernel
theorem d_Mo_nexts_3 : decode prog_13_method_23_code 3 = .ok (.istore_n 2, 1) := by decide +kernel
theorem d_Mo_nexts_4 : decode prog_13_method_23_code 4 = .ok (.iload_n 2, 1) := by decide +kernel
theorem d_Mo_nexts_5 : decode prog_13_method_23_code 5 = .ok (.sipush 256, 3) := by decide +kernel
theorem d_Mo_nexts_8 : decode prog_13_method_23_code 8 = .ok (.if_icmp .ge 45, 3) := by decide +kernel
theorem d_Mo_nexts_11 : decode prog_13_method_23_code 11 = .ok (.iconst 0, 1) := by decide +kernel
theorem d_Mo_nexts_12 : decode prog_13_method_23_code 12 = .ok (.istore_n 3, 1) := by decide +kernel
theorem d_Mo_nexts_13 : decode prog_13_method_23_code 13 = .ok (.iload_n 3, 1) := by decide +kernel
theorem d_Mo_nexts_14 : decode prog_13_method_23_code 14 = .ok (.aload_n 0, 1) := by decide +kernel
theorem d_Mo_nexts_15 : decode prog_13_method_23_code 15 = .ok (.getfield 87, 3) := by decide +kernel
theorem d_Mo_nexts_18 : decode prog_13_method_23_code 18 = .ok (.if_icmp .ge 29, 3) := by decide +kernel
theorem d_Mo_nexts_21 : decode prog_13_method_23_code 21 = .ok (.aload_n 0, 1) := by decide +kernel
theorem d_Mo_nexts_22 : decode prog_13_method_23_code 22 = .ok (.getfield 13, 3) := by decide +kernel
theorem d_Mo_nexts_25 : decode prog_13_method_23_code 25 = .ok (.iload_n 3, 1) := by decide +kernel
theorem d_Mo_nexts_26 : decode prog_13_method_23_code 26 = .ok (.iaload, 1) := by decide +kernel
theorem d_Mo_nexts_27 : decode prog_13_method_23_code 27 = .ok (.iload_n 2, 1) := by decide +kernel
theorem d_Mo_nexts_28 : decode prog_13_method_23_code 28 = .ok (.if_icmp .ne 13, 3) := by decide +kernel
theorem d_Mo_nexts_31 : decode prog_13_method_23_code 31 = .ok (.aload_n 0, 1) := by decide +kernel
theorem d_Mo_nexts_32 : decode prog_13_method_23_code 32 = .ok (.getfield 25, 3) := by decide +kernel
theorem d_Mo_nexts_35 : decode prog_13_method_23_code 35 = .ok (.iload_n 1, 1) := by decide +kernel
theorem d_Mo_nexts_36 : decode prog_13_method_23_code 36 = .ok (.iinc 1 1, 3) := by decide +kernel
theorem d_Mo_nexts_39 : decode prog_13_method_23_code 39 = .ok (.iload_n 3, 1) := by decide +kernel
theorem d_Mo_nexts_40 : decode prog_13_method_23_code 40 = .ok (.iastore, 1) := by decide +kernel
theorem d_Mo_nexts_41 : decode prog_13_method_23_code 41 = .ok (.iinc 3 1, 3) := by decide +kernel
theorem d_Mo_nexts_44 : decode prog_13_method_23_code 44 = .ok (.goto (-31), 3) := by decide +kernel
theorem d_Mo_nexts_47 : decode prog_13_method_23_code 47 = .ok (.iinc 2 1, 3) := by decide +kernel
theorem d_Mo_nexts_50 : decode prog_13_method_23_code 50 = .ok (.goto (-46), 3) := by decide +kernel
theorem d_Mo_nexts_53 : decode prog_13_method_23_code 53 = .ok (.return_, 1) := by decide +kernel
theorem d_Mo_givesBack_0 : decode prog_13_method_24_code 0 = .ok (.aload_n 0, 1) := by decide +kernel
theorem d_Mo_givesBack_1 : decode prog_13_method_24_code 1 = .ok (.invokevirtual 124, 3) := by decide +kernel
theorem d_Mo_givesBack_4 : decode prog_13_method_24_code 4 = .ok (.iload_n 1, 1) := by decide +kernel
theorem d_Mo_givesBack_5 : decode prog_13_method_24_code 5 = .ok (.istore_n 2, 1) := by decide +kernel
theorem d_Mo_givesBack_6 : decode prog_13_method_24_code 6 = .ok (.iconst 0, 1) := by decide +kernel
theorem d_Mo_givesBack_7 : decode prog_13_method_24_code 7 = .ok (.istore_n 3, 1) := by decide +kernel
theorem d_Mo_givesBack_8 : decode prog_13_method_24_code 8 = .ok (.iload_n 3, 1) := by decide +kernel
theorem d_Mo_givesBack_9 : decode prog_13_method_24_code 9 = .ok (.aload_n 0, 1) := by decide +kernel
theorem d_Mo_givesBack_10 : decode prog_13_method_24_code 10 = .ok (.getfield 87, 3) := by decide +kernel
theorem d_Mo_givesBack_13 : decode prog_13_method_24_code 13 = .ok (.if_icmp .ge 28, 3) := by decide +kernel
theorem d_Mo_givesBack_16 : decode prog_13_method_24_code 16 = .ok (.aload_n 0, 1) := by decide +kernel
theorem d_Mo_givesBack_17 : decode prog_13_method_24_code 17 = .ok (.getfield 25, 3) := by decide +kernel
theorem d_Mo_givesBack_20 : decode prog_13_method_24_code 20 = .ok (.iload_n 2, 1) := by decide +kernel
theorem d_Mo_givesBack_21 : decode prog_13_method_24_code 21 = .ok (.iaload, 1) := by decide +kernel
theorem d_Mo_givesBack_22 : decode prog_13_method_24_code 22 = .ok (.istore_n 2, 1) := by decide +kernel
theorem d_Mo_givesBack_23 : decode prog_13_method_24_code 23 = .ok (.aload_n 0, 1) := by decide +kernel
theorem d_Mo_givesBack_24 : decode prog_13_method_24_code 24 = .ok (.getfield 28, 3) := by decide +kernel
theorem d_Mo_givesBack_27 : decode prog_13_method_24_code 27 = .ok (.iload_n 3, 1) := by decide +kernel
theorem d_Mo_givesBack_28 : decode prog_13_method_24_code 28 = .ok (.aload_n 0, 1) := by decide +kernel
theorem d_Mo_givesBack_29 : decode prog_13_method_24_code 29 = .ok (.getfield 13, 3) := by decide +kernel
theorem d_Mo_givesBack_32 : decode prog_13_method_24_code 32 = .ok (.iload_n 2, 1) := by decide +kernel
theorem d_Mo_givesBack_33 : decode prog_13_method_24_code 33 = .ok (.iaload, 1) := by decide +kernel
theorem d_Mo_givesBack_34 : decode prog_13_method_24_code 34 = .ok (.iastore, 1) := by decide +kernel
theorem d_Mo_givesBack_35 : decode prog_13_method_24_code 35 = .ok (.iinc 3 1, 3) := by decide +kernel
theorem d_Mo_givesBack_38 : decode prog_13_method_24_code 38 = .ok (.goto (-30), 3) := by decide +kernel
theorem d_Mo_givesBack_41 : decode prog_13_method_24_code 41 = .ok (.iconst 0, 1) := by decide +kernel
theorem d_Mo_givesBack_42 : decode prog_13_method_24_code 42 = .ok (.istore_n 3, 1) := by decide +kernel
theorem d_Mo_givesBack_43 : decode prog_13_method_24_code 43 = .ok (.iload_n 3, 1) := by decide +kernel
theorem d_Mo_givesBack_44 : decode prog_13_method_24_code 44 = .ok (.aload_n 0, 1) := by decide +kernel
theorem d_Mo_givesBack_45 : decode prog_13_method_24_code 45 = .ok (.getfield 87, 3) := by decide +kernel
theorem d_Mo_givesBack_48 : decode prog_13_method_24_code 48 = .ok (.if_icmp .ge 37, 3) := by decide +kernel
theorem d_Mo_givesBack_51 : decode prog_13_method_24_code 51 = .ok (.aload_n 0, 1) := by decide +kernel
theorem d_Mo_givesBack_52 : decode prog_13_method_24_code 52 = .ok (.getfield 13, 3) := by decide +kernel
theorem d_Mo_givesBack_55 : decode prog_13_method_24_code 55 = .ok (.iload_n 3, 1) := by decide +kernel
theorem d_Mo_givesBack_56 : decode prog_13_method_24_code 56 = .ok (.iaload, 1) := by decide +kernel
theorem d_Mo_givesBack_57 : decode prog_13_method_24_code 57 = .ok (.istore 4, 2) := by decide +kernel
theorem d_Mo_givesBack_59 : decode prog_13_method_24_code 59 = .ok (.aload_n 0, 1) := by decide +kernel
theorem d_Mo_givesBack_60 : decode prog_13_method_24_code 60 = .ok (.getfield 13, 3) := by decide +kernel
theorem d_Mo_givesBack_63 : decode prog_13_method_24_code 63 = .ok (.iload_n 3, 1) := by decide +kernel
theorem d_Mo_givesBack_64 : decode prog_13_method_24_code 64 = .ok (.aload_n 0, 1) := by decide +kernel
theorem d_Mo_givesBack_65 : decode prog_13_method_24_code 65 = .ok (.getfield 28, 3) := by decide +kernel
theorem d_Mo_givesBack_68 : decode prog_13_method_24_code 68 = .ok (.iload_n 3, 1) := by decide +kernel
theorem d_Mo_givesBack_69 : decode prog_13_method_24_code 69 = .ok (.iaload, 1) := by decide +kernel
theorem d_Mo_givesBack_70 : decode prog_13_method_24_code 70 = .ok (.iastore, 1) := by decide +kernel
theorem d_Mo_givesBack_71 : decode prog_13_method_24_code 71 = .ok (.aload_n 0, 1) := by decide +kernel
theorem d_Mo_givesBack_72 : decode prog_13_method_24_code 72 = .ok (.getfield 28, 3) := by decide +kernel
theorem d_Mo_givesBack_75 : decode prog_13_method_24_code 75 = .ok (.iload_n 3, 1) := by decide +kernel
theorem d_Mo_givesBack_76 : decode prog_13_method_24_code 76 = .ok (.iload 4, 2) := by decide +kernel
theorem d_Mo_givesBack_78 : decode prog_13_method_24_code 78 = .ok (.iastore, 1) := by decide +kernel
theorem d_Mo_givesBack_79 : decode prog_13_method_24_code 79 = .ok (.iinc 3 1, 3) := by decide +kernel
theorem d_Mo_givesBack_82 : decode prog_13_method_24_code 82 = .ok (.goto (-39), 3) := by decide +kernel
theorem d_Mo_givesBack_85 : decode prog_13_method_24_code 85 = .ok (.aload_n 0, 1) := by decide +kernel
theorem d_Mo_givesBack_86 : decode prog_13_method_24_code 86 = .ok (.invokevirtual 104, 3) := by decide +kernel
theorem d_Mo_givesBack_89 : decode prog_13_method_24_code 89 = .ok (.aload_n 0, 1) := by decide +kernel
theorem d_Mo_givesBack_90 : decode prog_13_method_24_code 90 = .ok (.invokevirtual 107, 3) := by decide +kernel
theorem d_Mo_givesBack_93 : decode prog_13_method_24_code 93 = .ok (.iload_n 1, 1) := by decide +kernel
theorem d_Mo_givesBack_94 : decode prog_13_method_24_code 94 = .ok (.if_icmp .ne 7, 3) := by decide +kernel
theorem d_Mo_givesBack_97 : decode prog_13_method_24_code 97 = .ok (.iconst 1, 1) := by decide +kernel
theorem d_Mo_givesBack_98 : decode prog_13_method_24_code 98 = .ok (.goto 4, 3) := by decide +kernel
theorem d_Mo_givesBack_101 : decode prog_13_method_24_code 101 = .ok (.iconst 0, 1) := by decide +kernel
theorem d_Mo_givesBack_102 : decode prog_13_method_24_code 102 = .ok (.istore_n 3, 1) := by decide +kernel
theorem d_Mo_givesBack_103 : decode prog_13_method_24_code 103 = .ok (.iconst 0, 1) := by decide +kernel
theorem d_Mo_givesBack_104 : decode prog_13_method_24_code 104 = .ok (.istore 4, 2) := by decide +kernel
theorem d_Mo_givesBack_106 : decode prog_13_method_24_code 106 = .ok (.iload 4, 2) := by decide +kernel
theorem d_Mo_givesBack_108 : decode prog_13_method_24_code 108 = .ok (.aload_n 0, 1) := by decide +kernel
theorem d_Mo_givesBack_109 : decode prog_13_method_24_code 109 = .ok (.getfield 87, 3) := by decide +kernel
theorem d_Mo_givesBack_112 : decode prog_13_method_24_code 112 = .ok (.if_icmp .ge 33, 3) := by decide +kernel
theorem d_Mo_givesBack_115 : decode prog_13_method_24_code 115 = .ok (.iload_n 3, 1) := by decide +kernel
theorem d_Mo_givesBack_116 : decode prog_13_method_24_code 116 = .ok (.aload_n 0, 1) := by decide +kernel
theorem d_Mo_givesBack_117 : decode prog_13_method_24_code 117 = .ok (.iload 4, 2) := by decide +kernel
theorem d_Mo_givesBack_119 : decode prog_13_method_24_code 119 = .ok (.invokevirtual 127, 3) := by decide +kernel
theorem d_Mo_givesBack_122 : decode prog_13_method_24_code 122 = .ok (.aload_n 0, 1) := by decide +kernel
theorem d_Mo_givesBack_123 : decode prog_13_method_24_code 123 = .ok (.getfield 28, 3) := by decide +kernel
theorem d_Mo_givesBack_126 : decode prog_13_method_24_code 126 = .ok (.iload 4, 2) := by decide +kernel
theorem d_Mo_givesBack_128 : decode prog_13_method_24_code 128 = .ok (.iaload, 1) := by decide +kernel
theorem d_Mo_givesBack_129 : decode prog_13_method_24_code 129 = .ok (.if_icmp .ne 7, 3) := by decide +kernel
theorem d_Mo_givesBack_132 : decode prog_13_method_24_code 132 = .ok (.iconst 1, 1) := by decide +kernel
theorem d_Mo_givesBack_133 : decode prog_13_method_24_code 133 = .ok (.goto 4, 3) := by decide +kernel
theorem d_Mo_givesBack_136 : decode prog_13_method_24_code 136 = .ok (.iconst 0, 1) := by decide +kernel
theorem d_Mo_givesBack_137 : decode prog_13_method_24_code 137 = .ok (.iand, 1) := by decide +kernel
theorem d_Mo_givesBack_138 : decode prog_13_method_24_code 138 = .ok (.istore_n 3, 1) := by decide +kernel
theorem d_Mo_givesBack_139 : decode prog_13_method_24_code 139 = .ok (.iinc 4 1, 3) := by decide +kernel
theorem d_Mo_givesBack_142 : decode prog_13_method_24_code 142 = .ok (.goto (-36), 3) := by decide +kernel
theorem d_Mo_givesBack_145 : decode prog_13_method_24_code 145 = .ok (.iload_n 3, 1) := by decide +kernel
theorem d_Mo_givesBack_146 : decode prog_13_method_24_code 146 = .ok (.ireturn, 1) := by decide +kernel
theorem d_Mo_back_0 : decode prog_13_method_25_code 0 = .ok (.aload_n 0, 1) := by decide +kernel
theorem d_Mo_back_1 : decode prog_13_method_25_code 1 = .ok (.getfield 76, 3) := by decide +kernel
theorem d_Mo_back_4 : decode prog_13_method_25_code 4 = .ok (.ifCond .ne 6, 3) := by decide +kernel
theorem d_Mo_back_7 : decode prog_13_method_25_code 7 = .ok (.bipush (-2), 2) := by decide +kernel
theorem d_Mo_back_9 : decode prog_13_method_25_code 9 = .ok (.ireturn, 1) := by decide +kernel
theorem d_Mo_back_10 : decode prog_13_method_25_code 10 = .ok (.iload_n 1, 1) := by decide +kernel
theorem d_Mo_back_11 : decode prog_13_method_25_code 11 = .ok (.i2l, 1) := by decide +kernel
theorem d_Mo_back_12 : decode prog_13_method_25_code 12 = .ok (.lconst 0, 1) := by decide +kernel
theorem d_Mo_back_13 : decode prog_13_method_25_code 13 = .ok (.aload_n 0, 1) := by decide +kernel
theorem d_Mo_back_14 : decode prog_13_method_25_code 14 = .ok (.getfield 76, 3) := by decide +kernel
theorem d_Mo_back_17 : decode prog_13_method_25_code 17 = .ok (.iconst 1, 1) := by decide +kernel
theorem d_Mo_back_18 : decode prog_13_method_25_code 18 = .ok (.isub, 1) := by decide +kernel
theorem d_Mo_back_19 : decode prog_13_method_25_code 19 = .ok (.i2l, 1) := by decide +kernel
theorem d_Mo_back_20 : decode prog_13_method_25_code 20 = .ok (.invokestatic 72, 3) := by decide +kernel
theorem d_Mo_back_23 : decode prog_13_method_25_code 23 = .ok (.ifCond .ne 5, 3) := by decide +kernel
theorem d_Mo_back_26 : decode prog_13_method_25_code 26 = .ok (.iconst (-1), 1) := by decide +kernel
theorem d_Mo_back_27 : decode prog_13_method_25_code 27 = .ok (.ireturn, 1) := by decide +kernel
theorem d_Mo_back_28 : decode prog_13_method_25_code 28 = .ok (.aload_n 0, 1) := by decide +kernel
theorem d_Mo_back_29 : decode prog_13_method_25_code 29 = .ok (.invokevirtual 101, 3) := by decide +kernel
theorem d_Mo_back_32 : decode prog_13_method_25_code 32 = .ok (.aload_n 0, 1) := by decide +kernel
theorem d_Mo_back_33 : decode prog_13_method_25_code 33 = .ok (.iload_n 1, 1) := by decide +kernel
theorem d_Mo_back_34 : decode prog_13_method_25_code 34 = .ok (.invokevirtual 131, 3) := by decide +kernel
theorem d_Mo_back_37 : decode prog_13_method_25_code 37 = .ok (.istore_n 2, 1) := by decide +kernel
theorem d_Mo_back_38 : decode prog_13_method_25_code 38 = .ok (.iconst 0, 1) := by decide +kernel
theorem d_Mo_back_39 : decode prog_13_method_25_code 39 = .ok (.istore_n 3, 1) := by decide +kernel
theorem d_Mo_back_40 : decode prog_13_method_25_code 40 = .ok (.iload_n 3, 1) := by decide +kernel
theorem d_Mo_back_41 : decode prog_13_method_25_code 41 = .ok (.aload_n 0, 1) := by decide +kernel
theorem d_Mo_back_42 : decode prog_13_method_25_code 42 = .ok (.getfield 87, 3) := by decide +kernel
theorem d_Mo_back_45 : decode prog_13_method_25_code 45 = .ok (.if_icmp .ge 21, 3) := by decide +kernel
theorem d_Mo_back_48 : decode prog_13_method_25_code 48 = .ok (.aload_n 0, 1) := by decide +kernel
theorem d_Mo_back_49 : decode prog_13_method_25_code 49 = .ok (.getfield 7, 3) := by decide +kernel
theorem d_Mo_back_52 : decode prog_13_method_25_code 52 = .ok (.iload_n 3, 1) := by decide +kernel
theorem d_Mo_back_53 : decode prog_13_method_25_code 53 = .ok (.aload_n 0, 1) := by decide +kernel
theorem d_Mo_back_54 : decode prog_13_method_25_code 54 = .ok (.getfield 13, 3) := by decide +kernel
theorem d_Mo_back_57 : decode prog_13_method_25_code 57 = .ok (.iload_n 3, 1) := by decide +kernel
theorem d_Mo_back_58 : decode prog_13_method_25_code 58 = .ok (.iaload, 1) := by decide +kernel
theorem d_Mo_back_59 : decode prog_13_method_25_code 59 = .ok (.iastore, 1) := by decide +kernel
theorem d_Mo_back_60 : decode prog_13_method_25_code 60 = .ok (.iinc 3 1, 3) := by decide +kernel
theorem d_Mo_back_63 : decode prog_13_method_25_code 63 = .ok (.goto (-23), 3) := by decide +kernel
theorem d_Mo_back_66 : decode prog_13_method_25_code 66 = .ok (.aload_n 0, 1) := by decide +kernel
theorem d_Mo_back_67 : decode prog_13_method_25_code 67 = .ok (.iconst 0, 1) := by decide +kernel
theorem d_Mo_back_68 : decode prog_13_method_25_code 68 = .ok (.putfield 81, 3) := by decide +kernel
theorem d_Mo_back_71 : decode prog_13_method_25_code 71 = .ok (.iload_n 2, 1) := by decide +kernel
theorem d_Mo_back_72 : decode prog_13_method_25_code 72 = .ok (.ifCond .eq 7, 3) := by decide +kernel
theorem d_Mo_back_75 : decode prog_13_method_25_code 75 = .ok (.iconst 1, 1) := by decide +kernel
theorem d_Mo_back_76 : decode prog_13_method_25_code 76 = .ok (.goto 4, 3) := by decide +kernel
theorem d_Mo_back_79 : decode prog_13_method_25_code 79 = .ok (.iconst 0, 1) := by decide +kernel
theorem d_Mo_back_80 : decode prog_13_method_25_code 80 = .ok (.ireturn, 1) := by decide +kernel

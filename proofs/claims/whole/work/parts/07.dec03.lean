theorem d_Mo_ring_0 : decode prog_13_method_26_code 0 = .ok (.iload_n 1, 1) := by decide +kernel
theorem d_Mo_ring_1 : decode prog_13_method_26_code 1 = .ok (.i2l, 1) := by decide +kernel
theorem d_Mo_ring_2 : decode prog_13_method_26_code 2 = .ok (.lconst 0, 1) := by decide +kernel
theorem d_Mo_ring_3 : decode prog_13_method_26_code 3 = .ok (.aload_n 0, 1) := by decide +kernel
theorem d_Mo_ring_4 : decode prog_13_method_26_code 4 = .ok (.getfield 76, 3) := by decide +kernel
theorem d_Mo_ring_7 : decode prog_13_method_26_code 7 = .ok (.iconst 1, 1) := by decide +kernel
theorem d_Mo_ring_8 : decode prog_13_method_26_code 8 = .ok (.isub, 1) := by decide +kernel
theorem d_Mo_ring_9 : decode prog_13_method_26_code 9 = .ok (.i2l, 1) := by decide +kernel
theorem d_Mo_ring_10 : decode prog_13_method_26_code 10 = .ok (.invokestatic 72, 3) := by decide +kernel
theorem d_Mo_ring_13 : decode prog_13_method_26_code 13 = .ok (.ifCond .ne 5, 3) := by decide +kernel
theorem d_Mo_ring_16 : decode prog_13_method_26_code 16 = .ok (.iconst (-1), 1) := by decide +kernel
theorem d_Mo_ring_17 : decode prog_13_method_26_code 17 = .ok (.ireturn, 1) := by decide +kernel
theorem d_Mo_ring_18 : decode prog_13_method_26_code 18 = .ok (.aload_n 0, 1) := by decide +kernel
theorem d_Mo_ring_19 : decode prog_13_method_26_code 19 = .ok (.invokevirtual 101, 3) := by decide +kernel
theorem d_Mo_ring_22 : decode prog_13_method_26_code 22 = .ok (.aload_n 0, 1) := by decide +kernel
theorem d_Mo_ring_23 : decode prog_13_method_26_code 23 = .ok (.invokevirtual 124, 3) := by decide +kernel
theorem d_Mo_ring_26 : decode prog_13_method_26_code 26 = .ok (.iconst 1, 1) := by decide +kernel
theorem d_Mo_ring_27 : decode prog_13_method_26_code 27 = .ok (.istore_n 2, 1) := by decide +kernel
theorem d_Mo_ring_28 : decode prog_13_method_26_code 28 = .ok (.aload_n 0, 1) := by decide +kernel
theorem d_Mo_ring_29 : decode prog_13_method_26_code 29 = .ok (.getfield 25, 3) := by decide +kernel
theorem d_Mo_ring_32 : decode prog_13_method_26_code 32 = .ok (.iload_n 1, 1) := by decide +kernel
theorem d_Mo_ring_33 : decode prog_13_method_26_code 33 = .ok (.iaload, 1) := by decide +kernel
theorem d_Mo_ring_34 : decode prog_13_method_26_code 34 = .ok (.istore_n 3, 1) := by decide +kernel
theorem d_Mo_ring_35 : decode prog_13_method_26_code 35 = .ok (.iload_n 3, 1) := by decide +kernel
theorem d_Mo_ring_36 : decode prog_13_method_26_code 36 = .ok (.iload_n 1, 1) := by decide +kernel
theorem d_Mo_ring_37 : decode prog_13_method_26_code 37 = .ok (.if_icmp .eq 16, 3) := by decide +kernel
theorem d_Mo_ring_40 : decode prog_13_method_26_code 40 = .ok (.iinc 2 1, 3) := by decide +kernel
theorem d_Mo_ring_43 : decode prog_13_method_26_code 43 = .ok (.aload_n 0, 1) := by decide +kernel
theorem d_Mo_ring_44 : decode prog_13_method_26_code 44 = .ok (.getfield 25, 3) := by decide +kernel
theorem d_Mo_ring_47 : decode prog_13_method_26_code 47 = .ok (.iload_n 3, 1) := by decide +kernel
theorem d_Mo_ring_48 : decode prog_13_method_26_code 48 = .ok (.iaload, 1) := by decide +kernel
theorem d_Mo_ring_49 : decode prog_13_method_26_code 49 = .ok (.istore_n 3, 1) := by decide +kernel
theorem d_Mo_ring_50 : decode prog_13_method_26_code 50 = .ok (.goto (-15), 3) := by decide +kernel
theorem d_Mo_ring_53 : decode prog_13_method_26_code 53 = .ok (.iload_n 2, 1) := by decide +kernel
theorem d_Mo_ring_54 : decode prog_13_method_26_code 54 = .ok (.ireturn, 1) := by decide +kernel
theorem d_Mo_rowHas_0 : decode prog_13_method_27_code 0 = .ok (.iconst 0, 1) := by decide +kernel
theorem d_Mo_rowHas_1 : decode prog_13_method_27_code 1 = .ok (.istore_n 2, 1) := by decide +kernel
theorem d_Mo_rowHas_2 : decode prog_13_method_27_code 2 = .ok (.iload_n 2, 1) := by decide +kernel
theorem d_Mo_rowHas_3 : decode prog_13_method_27_code 3 = .ok (.aload_n 0, 1) := by decide +kernel
theorem d_Mo_rowHas_4 : decode prog_13_method_27_code 4 = .ok (.getfield 87, 3) := by decide +kernel
theorem d_Mo_rowHas_7 : decode prog_13_method_27_code 7 = .ok (.if_icmp .ge 21, 3) := by decide +kernel
theorem d_Mo_rowHas_10 : decode prog_13_method_27_code 10 = .ok (.aload_n 0, 1) := by decide +kernel
theorem d_Mo_rowHas_11 : decode prog_13_method_27_code 11 = .ok (.getfield 13, 3) := by decide +kernel
theorem d_Mo_rowHas_14 : decode prog_13_method_27_code 14 = .ok (.iload_n 2, 1) := by decide +kernel
theorem d_Mo_rowHas_15 : decode prog_13_method_27_code 15 = .ok (.iaload, 1) := by decide +kernel
theorem d_Mo_rowHas_16 : decode prog_13_method_27_code 16 = .ok (.iload_n 1, 1) := by decide +kernel
theorem d_Mo_rowHas_17 : decode prog_13_method_27_code 17 = .ok (.if_icmp .ne 5, 3) := by decide +kernel
theorem d_Mo_rowHas_20 : decode prog_13_method_27_code 20 = .ok (.iconst 1, 1) := by decide +kernel
theorem d_Mo_rowHas_21 : decode prog_13_method_27_code 21 = .ok (.ireturn, 1) := by decide +kernel
theorem d_Mo_rowHas_22 : decode prog_13_method_27_code 22 = .ok (.iinc 2 1, 3) := by decide +kernel
theorem d_Mo_rowHas_25 : decode prog_13_method_27_code 25 = .ok (.goto (-23), 3) := by decide +kernel
theorem d_Mo_rowHas_28 : decode prog_13_method_27_code 28 = .ok (.iconst 0, 1) := by decide +kernel
theorem d_Mo_rowHas_29 : decode prog_13_method_27_code 29 = .ok (.ireturn, 1) := by decide +kernel
theorem d_Mo_putNoughts_0 : decode prog_13_method_28_code 0 = .ok (.iload_n 1, 1) := by decide +kernel
theorem d_Mo_putNoughts_1 : decode prog_13_method_28_code 1 = .ok (.istore_n 2, 1) := by decide +kernel
theorem d_Mo_putNoughts_2 : decode prog_13_method_28_code 2 = .ok (.iload_n 2, 1) := by decide +kernel
theorem d_Mo_putNoughts_3 : decode prog_13_method_28_code 3 = .ok (.ifCond .le 44, 3) := by decide +kernel
theorem d_Mo_putNoughts_6 : decode prog_13_method_28_code 6 = .ok (.iload_n 2, 1) := by decide +kernel
theorem d_Mo_putNoughts_7 : decode prog_13_method_28_code 7 = .ok (.iconst 2, 1) := by decide +kernel
theorem d_Mo_putNoughts_8 : decode prog_13_method_28_code 8 = .ok (.irem, 1) := by decide +kernel
theorem d_Mo_putNoughts_9 : decode prog_13_method_28_code 9 = .ok (.iconst 1, 1) := by decide +kernel
theorem d_Mo_putNoughts_10 : decode prog_13_method_28_code 10 = .ok (.if_icmp .ne 7, 3) := by decide +kernel
theorem d_Mo_putNoughts_13 : decode prog_13_method_28_code 13 = .ok (.iconst 1, 1) := by decide +kernel
theorem d_Mo_putNoughts_14 : decode prog_13_method_28_code 14 = .ok (.goto 4, 3) := by decide +kernel
theorem d_Mo_putNoughts_17 : decode prog_13_method_28_code 17 = .ok (.iconst 2, 1) := by decide +kernel
theorem d_Mo_putNoughts_18 : decode prog_13_method_28_code 18 = .ok (.istore_n 3, 1) := by decide +kernel
theorem d_Mo_putNoughts_19 : decode prog_13_method_28_code 19 = .ok (.aload_n 0, 1) := by decide +kernel
theorem d_Mo_putNoughts_20 : decode prog_13_method_28_code 20 = .ok (.getfield 34, 3) := by decide +kernel
theorem d_Mo_putNoughts_23 : decode prog_13_method_28_code 23 = .ok (.aload_n 0, 1) := by decide +kernel
theorem d_Mo_putNoughts_24 : decode prog_13_method_28_code 24 = .ok (.dup, 1) := by decide +kernel
theorem d_Mo_putNoughts_25 : decode prog_13_method_28_code 25 = .ok (.getfield 135, 3) := by decide +kernel
theorem d_Mo_putNoughts_28 : decode prog_13_method_28_code 28 = .ok (.dup_x1, 1) := by decide +kernel
theorem d_Mo_putNoughts_29 : decode prog_13_method_28_code 29 = .ok (.iconst 1, 1) := by decide +kernel
theorem d_Mo_putNoughts_30 : decode prog_13_method_28_code 30 = .ok (.iadd, 1) := by decide +kernel
theorem d_Mo_putNoughts_31 : decode prog_13_method_28_code 31 = .ok (.putfield 135, 3) := by decide +kernel
theorem d_Mo_putNoughts_34 : decode prog_13_method_28_code 34 = .ok (.iload_n 3, 1) := by decide +kernel
theorem d_Mo_putNoughts_35 : decode prog_13_method_28_code 35 = .ok (.iconst 1, 1) := by decide +kernel
theorem d_Mo_putNoughts_36 : decode prog_13_method_28_code 36 = .ok (.isub, 1) := by decide +kernel
theorem d_Mo_putNoughts_37 : decode prog_13_method_28_code 37 = .ok (.iastore, 1) := by decide +kernel
theorem d_Mo_putNoughts_38 : decode prog_13_method_28_code 38 = .ok (.iload_n 2, 1) := by decide +kernel
theorem d_Mo_putNoughts_39 : decode prog_13_method_28_code 39 = .ok (.iload_n 3, 1) := by decide +kernel
theorem d_Mo_putNoughts_40 : decode prog_13_method_28_code 40 = .ok (.isub, 1) := by decide +kernel
theorem d_Mo_putNoughts_41 : decode prog_13_method_28_code 41 = .ok (.iconst 2, 1) := by decide +kernel
theorem d_Mo_putNoughts_42 : decode prog_13_method_28_code 42 = .ok (.idiv, 1) := by decide +kernel
theorem d_Mo_putNoughts_43 : decode prog_13_method_28_code 43 = .ok (.istore_n 2, 1) := by decide +kernel
theorem d_Mo_putNoughts_44 : decode prog_13_method_28_code 44 = .ok (.goto (-42), 3) := by decide +kernel
theorem d_Mo_putNoughts_47 : decode prog_13_method_28_code 47 = .ok (.return_, 1) := by decide +kernel
theorem d_Mo_makeSymbols_0 : decode prog_13_method_29_code 0 = .ok (.aload_n 0, 1) := by decide +kernel
theorem d_Mo_makeSymbols_1 : decode prog_13_method_29_code 1 = .ok (.iconst 0, 1) := by decide +kernel
theorem d_Mo_makeSymbols_2 : decode prog_13_method_29_code 2 = .ok (.putfield 138, 3) := by decide +kernel
theorem d_Mo_makeSymbols_5 : decode prog_13_method_29_code 5 = .ok (.iconst 0, 1) := by decide +kernel
theorem d_Mo_makeSymbols_6 : decode prog_13_method_29_code 6 = .ok (.istore_n 1, 1) := by decide +kernel
theorem d_Mo_makeSymbols_7 : decode prog_13_method_29_code 7 = .ok (.iload_n 1, 1) := by decide +kernel
theorem d_Mo_makeSymbols_8 : decode prog_13_method_29_code 8 = .ok (.sipush 256, 3) := by decide +kernel
theorem d_Mo_makeSymbols_11 : decode prog_13_method_29_code 11 = .ok (.if_icmp .ge 34, 3) := by decide +kernel
theorem d_Mo_makeSymbols_14 : decode prog_13_method_29_code 14 = .ok (.aload_n 0, 1) := by decide +kernel
theorem d_Mo_makeSymbols_15 : decode prog_13_method_29_code 15 = .ok (.iload_n 1, 1) := by decide +kernel
theorem d_Mo_makeSymbols_16 : decode prog_13_method_29_code 16 = .ok (.invokevirtual 141, 3) := by decide +kernel
theorem d_Mo_makeSymbols_19 : decode prog_13_method_29_code 19 = .ok (.ifCond .eq 20, 3) := by decide +kernel
theorem d_Mo_makeSymbols_22 : decode prog_13_method_29_code 22 = .ok (.aload_n 0, 1) := by decide +kernel
theorem d_Mo_makeSymbols_23 : decode prog_13_method_29_code 23 = .ok (.getfield 31, 3) := by decide +kernel
theorem d_Mo_makeSymbols_26 : decode prog_13_method_29_code 26 = .ok (.aload_n 0, 1) := by decide +kernel
theorem d_Mo_makeSymbols_27 : decode prog_13_method_29_code 27 = .ok (.dup, 1) := by decide +kernel
theorem d_Mo_makeSymbols_28 : decode prog_13_method_29_code 28 = .ok (.getfield 138, 3) := by decide +kernel
theorem d_Mo_makeSymbols_31 : decode prog_13_method_29_code 31 = .ok (.dup_x1, 1) := by decide +kernel
theorem d_Mo_makeSymbols_32 : decode prog_13_method_29_code 32 = .ok (.iconst 1, 1) := by decide +kernel
theorem d_Mo_makeSymbols_33 : decode prog_13_method_29_code 33 = .ok (.iadd, 1) := by decide +kernel
theorem d_Mo_makeSymbols_34 : decode prog_13_method_29_code 34 = .ok (.putfield 138, 3) := by decide +kernel
theorem d_Mo_makeSymbols_37 : decode prog_13_method_29_code 37 = .ok (.iload_n 1, 1) := by decide +kernel
theorem d_Mo_makeSymbols_38 : decode prog_13_method_29_code 38 = .ok (.iastore, 1) := by decide +kernel
theorem d_Mo_makeSymbols_39 : decode prog_13_method_29_code 39 = .ok (.iinc 1 1, 3) := by decide +kernel
theorem d_Mo_makeSymbols_42 : decode prog_13_method_29_code 42 = .ok (.goto (-35), 3) := by decide +kernel
theorem d_Mo_makeSymbols_45 : decode prog_13_method_29_code 45 = .ok (.aload_n 0, 1) := by decide +kernel
theorem d_Mo_makeSymbols_46 : decode prog_13_method_29_code 46 = .ok (.iconst 0, 1) := by decide +kernel
theorem d_Mo_makeSymbols_47 : decode prog_13_method_29_code 47 = .ok (.putfield 135, 3) := by decide +kernel
theorem d_Mo_makeSymbols_50 : decode prog_13_method_29_code 50 = .ok (.iconst 0, 1) := by decide +kernel
theorem d_Mo_makeSymbols_51 : decode prog_13_method_29_code 51 = .ok (.istore_n 1, 1) := by decide +kernel
theorem d_Mo_makeSymbols_52 : decode prog_13_method_29_code 52 = .ok (.iconst 0, 1) := by decide +kernel
theorem d_Mo_makeSymbols_53 : decode prog_13_method_29_code 53 = .ok (.istore_n 2, 1) := by decide +kernel
theorem d_Mo_makeSymbols_54 : decode prog_13_method_29_code 54 = .ok (.iload_n 2, 1) := by decide +kernel
theorem d_Mo_makeSymbols_55 : decode prog_13_method_29_code 55 = .ok (.aload_n 0, 1) := by decide +kernel
theorem d_Mo_makeSymbols_56 : decode prog_13_method_29_code 56 = .ok (.getfield 87, 3) := by decide +kernel
theorem d_Mo_makeSymbols_59 : decode prog_13_method_29_code 59 = .ok (.if_icmp .ge 56, 3) := by decide +kernel
theorem d_Mo_makeSymbols_62 : decode prog_13_method_29_code 62 = .ok (.aload_n 0, 1) := by decide +kernel
theorem d_Mo_makeSymbols_63 : decode prog_13_method_29_code 63 = .ok (.aload_n 0, 1) := by decide +kernel
theorem d_Mo_makeSymbols_64 : decode prog_13_method_29_code 64 = .ok (.getfield 13, 3) := by decide +kernel
theorem d_Mo_makeSymbols_67 : decode prog_13_method_29_code 67 = .ok (.iload_n 2, 1) := by decide +kernel
theorem d_Mo_makeSymbols_68 : decode prog_13_method_29_code 68 = .ok (.iaload, 1) := by decide +kernel
theorem d_Mo_makeSymbols_69 : decode prog_13_method_29_code 69 = .ok (.invokevirtual 144, 3) := by decide +kernel
theorem d_Mo_makeSymbols_72 : decode prog_13_method_29_code 72 = .ok (.istore_n 3, 1) := by decide +kernel
theorem d_Mo_makeSymbols_73 : decode prog_13_method_29_code 73 = .ok (.iload_n 3, 1) := by decide +kernel
theorem d_Mo_makeSymbols_74 : decode prog_13_method_29_code 74 = .ok (.ifCond .ne 9, 3) := by decide +kernel
theorem d_Mo_makeSymbols_77 : decode prog_13_method_29_code 77 = .ok (.iinc 1 1, 3) := by decide +kernel
theorem d_Mo_makeSymbols_80 : decode prog_13_method_29_code 80 = .ok (.goto 29, 3) := by decide +kernel
theorem d_Mo_makeSymbols_83 : decode prog_13_method_29_code 83 = .ok (.aload_n 0, 1) := by decide +kernel
theorem d_Mo_makeSymbols_84 : decode prog_13_method_29_code 84 = .ok (.iload_n 1, 1) := by decide +kernel
theorem d_Mo_makeSymbols_85 : decode prog_13_method_29_code 85 = .ok (.invokevirtual 147, 3) := by decide +kernel
theorem d_Mo_makeSymbols_88 : decode prog_13_method_29_code 88 = .ok (.iconst 0, 1) := by decide +kernel
theorem d_Mo_makeSymbols_89 : decode prog_13_method_29_code 89 = .ok (.istore_n 1, 1) := by decide +kernel
theorem d_Mo_makeSymbols_90 : decode prog_13_method_29_code 90 = .ok (.aload_n 0, 1) := by decide +kernel
theorem d_Mo_makeSymbols_91 : decode prog_13_method_29_code 91 = .ok (.getfield 34, 3) := by decide +kernel
theorem d_Mo_makeSymbols_94 : decode prog_13_method_29_code 94 = .ok (.aload_n 0, 1) := by decide +kernel
theorem d_Mo_makeSymbols_95 : decode prog_13_method_29_code 95 = .ok (.dup, 1) := by decide +kernel
theorem d_Mo_makeSymbols_96 : decode prog_13_method_29_code 96 = .ok (.getfield 135, 3) := by decide +kernel
theorem d_Mo_makeSymbols_99 : decode prog_13_method_29_code 99 = .ok (.dup_x1, 1) := by decide +kernel
theorem d_Mo_makeSymbols_100 : decode prog_13_method_29_code 100 = .ok (.iconst 1, 1) := by decide +kernel
theorem d_Mo_makeSymbols_101 : decode prog_13_method_29_code 101 = .ok (.iadd, 1) := by decide +kernel
theorem d_Mo_makeSymbols_102 : decode prog_13_method_29_code 102 = .ok (.putfield 135, 3) := by decide +kernel
theorem d_Mo_makeSymbols_105 : decode prog_13_method_29_code 105 = .ok (.iload_n 3, 1) := by decide +kernel
theorem d_Mo_makeSymbols_106 : decode prog_13_method_29_code 106 = .ok (.iconst 1, 1) := by decide +kernel
theorem d_Mo_makeSymbols_107 : decode prog_13_method_29_code 107 = .ok (.iadd, 1) := by decide +kernel
theorem d_Mo_makeSymbols_108 : decode prog_13_method_29_code 108 = .ok (.iastore, 1) := by decide +kernel
theorem d_Mo_makeSymbols_109 : decode prog_13_method_29_code 109 = .ok (.iinc 2 1, 3) := by decide +kernel
theorem d_Mo_makeSymbols_112 : decode prog_13_method_29_code 112 = .ok (.goto (-58), 3) := by decide +kernel
theorem d_Mo_makeSymbols_115 : decode prog_13_method_29_code 115 = .ok (.aload_n 0, 1) := by decide +kernel
theorem d_Mo_makeSymbols_116 : decode prog_13_method_29_code 116 = .ok (.iload_n 1, 1) := by decide +kernel
theorem d_Mo_makeSymbols_117 : decode prog_13_method_29_code 117 = .ok (.invokevirtual 147, 3) := by decide +kernel
theorem d_Mo_makeSymbols_120 : decode prog_13_method_29_code 120 = .ok (.aload_n 0, 1) := by decide +kernel
theorem d_Mo_makeSymbols_121 : decode prog_13_method_29_code 121 = .ok (.getfield 34, 3) := by decide +kernel
theorem d_Mo_makeSymbols_124 : decode prog_13_method_29_code 124 = .ok (.aload_n 0, 1) := by decide +kernel
theorem d_Mo_makeSymbols_125 : decode prog_13_method_29_code 125 = .ok (.dup, 1) := by decide +kernel
theorem d_Mo_makeSymbols_126 : decode prog_13_method_29_code 126 = .ok (.getfield 135, 3) := by decide +kernel
theorem d_Mo_makeSymbols_129 : decode prog_13_method_29_code 129 = .ok (.dup_x1, 1) := by decide +kernel
theorem d_Mo_makeSymbols_130 : decode prog_13_method_29_code 130 = .ok (.iconst 1, 1) := by decide +kernel
theorem d_Mo_makeSymbols_131 : decode prog_13_method_29_code 131 = .ok (.iadd, 1) := by decide +kernel
theorem d_Mo_makeSymbols_132 : decode prog_13_method_29_code 132 = .ok (.putfield 135, 3) := by decide +kernel
theorem d_Mo_makeSymbols_135 : decode prog_13_method_29_code 135 = .ok (.aload_n 0, 1) := by decide +kernel
theorem d_Mo_makeSymbols_136 : decode prog_13_method_29_code 136 = .ok (.getfield 138, 3) := by decide +kernel
theorem d_Mo_makeSymbols_139 : decode prog_13_method_29_code 139 = .ok (.iconst 1, 1) := by decide +kernel
theorem d_Mo_makeSymbols_140 : decode prog_13_method_29_code 140 = .ok (.iadd, 1) := by decide +kernel
theorem d_Mo_makeSymbols_141 : decode prog_13_method_29_code 141 = .ok (.iastore, 1) := by decide +kernel
theorem d_Mo_makeSymbols_142 : decode prog_13_method_29_code 142 = .ok (.return_, 1) := by decide +kernel
theorem d_Mo_toFront_0 : decode prog_13_method_30_code 0 = .ok (.iconst 0, 1) := by decide +kernel
theorem d_Mo_toFront_1 : decode prog_13_method_30_code 1 = .ok (.istore_n 2, 1) := by decide +kernel
theorem d_Mo_toFront_2 : decode prog_13_method_30_code 2 = .ok (.aload_n 0, 1) := by decide +kernel
theorem d_Mo_toFront_3 : decode prog_13_method_30_code 3 = .ok (.getfield 31, 3) := by decide +kernel
theorem d_Mo_toFront_6 : decode prog_13_method_30_code 6 = .ok (.iload_n 2, 1) := by decide +kernel
theorem d_Mo_toFront_7 : decode prog_13_method_30_code 7 = .ok (.iaload, 1) := by decide +kernel
theorem d_Mo_toFront_8 : decode prog_13_method_30_code 8 = .ok (.iload_n 1, 1) := by decide +kernel
theorem d_Mo_toFront_9 : decode prog_13_method_30_code 9 = .ok (.if_icmp .eq 9, 3) := by decide +kernel
theorem d_Mo_toFront_12 : decode prog_13_method_30_code 12 = .ok (.iinc 2 1, 3) := by decide +kernel
theorem d_Mo_toFront_15 : decode prog_13_method_30_code 15 = .ok (.goto (-13), 3) := by decide +kernel
theorem d_Mo_toFront_18 : decode prog_13_method_30_code 18 = .ok (.iload_n 2, 1) := by decide +kernel
theorem d_Mo_toFront_19 : decode prog_13_method_30_code 19 = .ok (.istore_n 3, 1) := by decide +kernel
theorem d_Mo_toFront_20 : decode prog_13_method_30_code 20 = .ok (.iload_n 3, 1) := by decide +kernel
theorem d_Mo_toFront_21 : decode prog_13_method_30_code 21 = .ok (.ifCond .le 23, 3) := by decide +kernel
theorem d_Mo_toFront_24 : decode prog_13_method_30_code 24 = .ok (.aload_n 0, 1) := by decide +kernel
theorem d_Mo_toFront_25 : decode prog_13_method_30_code 25 = .ok (.getfield 31, 3) := by decide +kernel
theorem d_Mo_toFront_28 : decode prog_13_method_30_code 28 = .ok (.iload_n 3, 1) := by decide +kernel
theorem d_Mo_toFront_29 : decode prog_13_method_30_code 29 = .ok (.aload_n 0, 1) := by decide +kernel
theorem d_Mo_toFront_30 : decode prog_13_method_30_code 30 = .ok (.getfield 31, 3) := by decide +kernel
theorem d_Mo_toFront_33 : decode prog_13_method_30_code 33 = .ok (.iload_n 3, 1) := by decide +kernel
theorem d_Mo_toFront_34 : decode prog_13_method_30_code 34 = .ok (.iconst 1, 1) := by decide +kernel
theorem d_Mo_toFront_35 : decode prog_13_method_30_code 35 = .ok (.isub, 1) := by decide +kernel
theorem d_Mo_toFront_36 : decode prog_13_method_30_code 36 = .ok (.iaload, 1) := by decide +kernel
theorem d_Mo_toFront_37 : decode prog_13_method_30_code 37 = .ok (.iastore, 1) := by decide +kernel
theorem d_Mo_toFront_38 : decode prog_13_method_30_code 38 = .ok (.iinc 3 (-1), 3) := by decide +kernel
theorem d_Mo_toFront_41 : decode prog_13_method_30_code 41 = .ok (.goto (-21), 3) := by decide +kernel
theorem d_Mo_toFront_44 : decode prog_13_method_30_code 44 = .ok (.aload_n 0, 1) := by decide +kernel
theorem d_Mo_toFront_45 : decode prog_13_method_30_code 45 = .ok (.getfield 31, 3) := by decide +kernel
theorem d_Mo_toFront_48 : decode prog_13_method_30_code 48 = .ok (.iconst 0, 1) := by decide +kernel
theorem d_Mo_toFront_49 : decode prog_13_method_30_code 49 = .ok (.iload_n 1, 1) := by decide +kernel
theorem d_Mo_toFront_50 : decode prog_13_method_30_code 50 = .ok (.iastore, 1) := by decide +kernel
theorem d_Mo_toFront_51 : decode prog_13_method_30_code 51 = .ok (.iload_n 2, 1) := by decide +kernel
theorem d_Mo_toFront_52 : decode prog_13_method_30_code 52 = .ok (.ireturn, 1) := by decide +kernel
theorem d_Mo_makeLengths_0 : decode prog_13_method_31_code 0 = .ok (.aload_n 0, 1) := by decide +kernel
theorem d_Mo_makeLengths_1 : decode prog_13_method_31_code 1 = .ok (.getfield 138, 3) := by decide +kernel
theorem d_Mo_makeLengths_4 : decode prog_13_method_31_code 4 = .ok (.iconst 2, 1) := by decide +kernel
theorem d_Mo_makeLengths_5 : decode prog_13_method_31_code 5 = .ok (.iadd, 1) := by decide +kernel
theorem d_Mo_makeLengths_6 : decode prog_13_method_31_code 6 = .ok (.istore_n 1, 1) := by decide +kernel
theorem d_Mo_makeLengths_7 : decode prog_13_method_31_code 7 = .ok (.iconst 0, 1) := by decide +kernel
theorem d_Mo_makeLengths_8 : decode prog_13_method_31_code 8 = .ok (.istore_n 2, 1) := by decide +kernel
theorem d_Mo_makeLengths_9 : decode prog_13_method_31_code 9 = .ok (.iload_n 2, 1) := by decide +kernel
theorem d_Mo_makeLengths_10 : decode prog_13_method_31_code 10 = .ok (.iload_n 1, 1) := by decide +kernel
theorem d_Mo_makeLengths_11 : decode prog_13_method_31_code 11 = .ok (.if_icmp .ge 16, 3) := by decide +kernel
theorem d_Mo_makeLengths_14 : decode prog_13_method_31_code 14 = .ok (.aload_n 0, 1) := by decide +kernel
theorem d_Mo_makeLengths_15 : decode prog_13_method_31_code 15 = .ok (.getfield 53, 3) := by decide +kernel
theorem d_Mo_makeLengths_18 : decode prog_13_method_31_code 18 = .ok (.iload_n 2, 1) := by decide +kernel
theorem d_Mo_makeLengths_19 : decode prog_13_method_31_code 19 = .ok (.lconst 0, 1) := by decide +kernel
theorem d_Mo_makeLengths_20 : decode prog_13_method_31_code 20 = .ok (.lastore, 1) := by decide +kernel
theorem d_Mo_makeLengths_21 : decode prog_13_method_31_code 21 = .ok (.iinc 2 1, 3) := by decide +kernel
theorem d_Mo_makeLengths_24 : decode prog_13_method_31_code 24 = .ok (.goto (-15), 3) := by decide +kernel
theorem d_Mo_makeLengths_27 : decode prog_13_method_31_code 27 = .ok (.iconst 0, 1) := by decide +kernel
theorem d_Mo_makeLengths_28 : decode prog_13_method_31_code 28 = .ok (.istore_n 2, 1) := by decide +kernel
theorem d_Mo_makeLengths_29 : decode prog_13_method_31_code 29 = .ok (.iload_n 2, 1) := by decide +kernel
theorem d_Mo_makeLengths_30 : decode prog_13_method_31_code 30 = .ok (.aload_n 0, 1) := by decide +kernel
theorem d_Mo_makeLengths_31 : decode prog_13_method_31_code 31 = .ok (.getfield 135, 3) := by decide +kernel
theorem d_Mo_makeLengths_34 : decode prog_13_method_31_code 34 = .ok (.if_icmp .ge 24, 3) := by decide +kernel
theorem d_Mo_makeLengths_37 : decode prog_13_method_31_code 37 = .ok (.aload_n 0, 1) := by decide +kernel
theorem d_Mo_makeLengths_38 : decode prog_13_method_31_code 38 = .ok (.getfield 53, 3) := by decide +kernel
theorem d_Mo_makeLengths_41 : decode prog_13_method_31_code 41 = .ok (.aload_n 0, 1) := by decide +kernel
theorem d_Mo_makeLengths_42 : decode prog_13_method_31_code 42 = .ok (.getfield 34, 3) := by decide +kernel
theorem d_Mo_makeLengths_45 : decode prog_13_method_31_code 45 = .ok (.iload_n 2, 1) := by decide +kernel
theorem d_Mo_makeLengths_46 : decode prog_13_method_31_code 46 = .ok (.iaload, 1) := by decide +kernel
theorem d_Mo_makeLengths_47 : decode prog_13_method_31_code 47 = .ok (.dup2, 1) := by decide +kernel
theorem d_Mo_makeLengths_48 : decode prog_13_method_31_code 48 = .ok (.laload, 1) := by decide +kernel
theorem d_Mo_makeLengths_49 : decode prog_13_method_31_code 49 = .ok (.lconst 1, 1) := by decide +kernel
theorem d_Mo_makeLengths_50 : decode prog_13_method_31_code 50 = .ok (.ladd, 1) := by decide +kernel
theorem d_Mo_makeLengths_51 : decode prog_13_method_31_code 51 = .ok (.lastore, 1) := by decide +kernel
theorem d_Mo_makeLengths_52 : decode prog_13_method_31_code 52 = .ok (.iinc 2 1, 3) := by decide +kernel
theorem d_Mo_makeLengths_55 : decode prog_13_method_31_code 55 = .ok (.goto (-26), 3) := by decide +kernel
theorem d_Mo_makeLengths_58 : decode prog_13_method_31_code 58 = .ok (.iconst 0, 1) := by decide +kernel
theorem d_Mo_makeLengths_59 : decode prog_13_method_31_code 59 = .ok (.istore_n 2, 1) := by decide +kernel
theorem d_Mo_makeLengths_60 : decode prog_13_method_31_code 60 = .ok (.iload_n 2, 1) := by decide +kernel
theorem d_Mo_makeLengths_61 : decode prog_13_method_31_code 61 = .ok (.iload_n 1, 1) := by decide +kernel
theorem d_Mo_makeLengths_62 : decode prog_13_method_31_code 62 = .ok (.if_icmp .ge 27, 3) := by decide +kernel
theorem d_Mo_makeLengths_65 : decode prog_13_method_31_code 65 = .ok (.aload_n 0, 1) := by decide +kernel
theorem d_Mo_makeLengths_66 : decode prog_13_method_31_code 66 = .ok (.getfield 53, 3) := by decide +kernel
theorem d_Mo_makeLengths_69 : decode prog_13_method_31_code 69 = .ok (.iload_n 2, 1) := by decide +kernel
theorem d_Mo_makeLengths_70 : decode prog_13_method_31_code 70 = .ok (.laload, 1) := by decide +kernel
theorem d_Mo_makeLengths_71 : decode prog_13_method_31_code 71 = .ok (.lconst 0, 1) := by decide +kernel
theorem d_Mo_makeLengths_72 : decode prog_13_method_31_code 72 = .ok (.lcmp, 1) := by decide +kernel
theorem d_Mo_makeLengths_73 : decode prog_13_method_31_code 73 = .ok (.ifCond .ne 10, 3) := by decide +kernel
theorem d_Mo_makeLengths_76 : decode prog_13_method_31_code 76 = .ok (.aload_n 0, 1) := by decide +kernel
theorem d_Mo_makeLengths_77 : decode prog_13_method_31_code 77 = .ok (.getfield 53, 3) := by decide +kernel
theorem d_Mo_makeLengths_80 : decode prog_13_method_31_code 80 = .ok (.iload_n 2, 1) := by decide +kernel
theorem d_Mo_makeLengths_81 : decode prog_13_method_31_code 81 = .ok (.lconst 1, 1) := by decide +kernel
theorem d_Mo_makeLengths_82 : decode prog_13_method_31_code 82 = .ok (.lastore, 1) := by decide +kernel
theorem d_Mo_makeLengths_83 : decode prog_13_method_31_code 83 = .ok (.iinc 2 1, 3) := by decide +kernel
theorem d_Mo_makeLengths_86 : decode prog_13_method_31_code 86 = .ok (.goto (-26), 3) := by decide +kernel
theorem d_Mo_makeLengths_89 : decode prog_13_method_31_code 89 = .ok (.iconst 0, 1) := by decide +kernel
theorem d_Mo_makeLengths_90 : decode prog_13_method_31_code 90 = .ok (.istore_n 2, 1) := by decide +kernel
theorem d_Mo_makeLengths_91 : decode prog_13_method_31_code 91 = .ok (.iload_n 2, 1) := by decide +kernel
theorem d_Mo_makeLengths_92 : decode prog_13_method_31_code 92 = .ok (.ifCond .ne 80, 3) := by decide +kernel
theorem d_Mo_makeLengths_95 : decode prog_13_method_31_code 95 = .ok (.aload_n 0, 1) := by decide +kernel
theorem d_Mo_makeLengths_96 : decode prog_13_method_31_code 96 = .ok (.iload_n 1, 1) := by decide +kernel
theorem d_Mo_makeLengths_97 : decode prog_13_method_31_code 97 = .ok (.invokevirtual 151, 3) := by decide +kernel
theorem d_Mo_makeLengths_100 : decode prog_13_method_31_code 100 = .ok (.iconst 1, 1) := by decide +kernel
theorem d_Mo_makeLengths_101 : decode prog_13_method_31_code 101 = .ok (.istore_n 2, 1) := by decide +kernel
theorem d_Mo_makeLengths_102 : decode prog_13_method_31_code 102 = .ok (.iconst 0, 1) := by decide +kernel
theorem d_Mo_makeLengths_103 : decode prog_13_method_31_code 103 = .ok (.istore_n 3, 1) := by decide +kernel
theorem d_Mo_makeLengths_104 : decode prog_13_method_31_code 104 = .ok (.iload_n 3, 1) := by decide +kernel
theorem d_Mo_makeLengths_105 : decode prog_13_method_31_code 105 = .ok (.iload_n 1, 1) := by decide +kernel
theorem d_Mo_makeLengths_106 : decode prog_13_method_31_code 106 = .ok (.if_icmp .ge 28, 3) := by decide +kernel
theorem d_Mo_makeLengths_109 : decode prog_13_method_31_code 109 = .ok (.iload_n 2, 1) := by decide +kernel
theorem d_Mo_makeLengths_110 : decode prog_13_method_31_code 110 = .ok (.aload_n 0, 1) := by decide +kernel
theorem d_Mo_makeLengths_111 : decode prog_13_method_31_code 111 = .ok (.getfield 37, 3) := by decide +kernel
theorem d_Mo_makeLengths_114 : decode prog_13_method_31_code 114 = .ok (.iload_n 3, 1) := by decide +kernel
theorem d_Mo_makeLengths_115 : decode prog_13_method_31_code 115 = .ok (.iaload, 1) := by decide +kernel
theorem d_Mo_makeLengths_116 : decode prog_13_method_31_code 116 = .ok (.bipush 12, 2) := by decide +kernel
theorem d_Mo_makeLengths_118 : decode prog_13_method_31_code 118 = .ok (.if_icmp .gt 7, 3) := by decide +kernel
theorem d_Mo_makeLengths_121 : decode prog_13_method_31_code 121 = .ok (.iconst 1, 1) := by decide +kernel
theorem d_Mo_makeLengths_122 : decode prog_13_method_31_code 122 = .ok (.goto 4, 3) := by decide +kernel
theorem d_Mo_makeLengths_125 : decode prog_13_method_31_code 125 = .ok (.iconst 0, 1) := by decide +kernel
theorem d_Mo_makeLengths_126 : decode prog_13_method_31_code 126 = .ok (.iand, 1) := by decide +kernel
theorem d_Mo_makeLengths_127 : decode prog_13_method_31_code 127 = .ok (.istore_n 2, 1) := by decide +kernel
theorem d_Mo_makeLengths_128 : decode prog_13_method_31_code 128 = .ok (.iinc 3 1, 3) := by decide +kernel
theorem d_Mo_makeLengths_131 : decode prog_13_method_31_code 131 = .ok (.goto (-27), 3) := by decide +kernel
theorem d_Mo_makeLengths_134 : decode prog_13_method_31_code 134 = .ok (.iconst 0, 1) := by decide +kernel
theorem d_Mo_makeLengths_135 : decode prog_13_method_31_code 135 = .ok (.istore_n 3, 1) := by decide +kernel
theorem d_Mo_makeLengths_136 : decode prog_13_method_31_code 136 = .ok (.iload_n 3, 1) := by decide +kernel
theorem d_Mo_makeLengths_137 : decode prog_13_method_31_code 137 = .ok (.iload_n 1, 1) := by decide +kernel
theorem d_Mo_makeLengths_138 : decode prog_13_method_31_code 138 = .ok (.if_icmp .ge 31, 3) := by decide +kernel
theorem d_Mo_makeLengths_141 : decode prog_13_method_31_code 141 = .ok (.iload_n 2, 1) := by decide +kernel
theorem d_Mo_makeLengths_142 : decode prog_13_method_31_code 142 = .ok (.ifCond .ne 27, 3) := by decide +kernel
theorem d_Mo_makeLengths_145 : decode prog_13_method_31_code 145 = .ok (.aload_n 0, 1) := by decide +kernel
theorem d_Mo_makeLengths_146 : decode prog_13_method_31_code 146 = .ok (.getfield 53, 3) := by decide +kernel
theorem d_Mo_makeLengths_149 : decode prog_13_method_31_code 149 = .ok (.iload_n 3, 1) := by decide +kernel
theorem d_Mo_makeLengths_150 : decode prog_13_method_31_code 150 = .ok (.aload_n 0, 1) := by decide +kernel
theorem d_Mo_makeLengths_151 : decode prog_13_method_31_code 151 = .ok (.getfield 53, 3) := by decide +kernel
theorem d_Mo_makeLengths_154 : decode prog_13_method_31_code 154 = .ok (.iload_n 3, 1) := by decide +kernel
theorem d_Mo_makeLengths_155 : decode prog_13_method_31_code 155 = .ok (.laload, 1) := by decide +kernel
theorem d_Mo_makeLengths_156 : decode prog_13_method_31_code 156 = .ok (.ldc2_w 122, 3) := by decide +kernel
theorem d_Mo_makeLengths_159 : decode prog_13_method_31_code 159 = .ok (.ldiv, 1) := by decide +kernel
theorem d_Mo_makeLengths_160 : decode prog_13_method_31_code 160 = .ok (.lconst 1, 1) := by decide +kernel
theorem d_Mo_makeLengths_161 : decode prog_13_method_31_code 161 = .ok (.ladd, 1) := by decide +kernel
theorem d_Mo_makeLengths_162 : decode prog_13_method_31_code 162 = .ok (.lastore, 1) := by decide +kernel
theorem d_Mo_makeLengths_163 : decode prog_13_method_31_code 163 = .ok (.iinc 3 1, 3) := by decide +kernel
theorem d_Mo_makeLengths_166 : decode prog_13_method_31_code 166 = .ok (.goto (-30), 3) := by decide +kernel
theorem d_Mo_makeLengths_169 : decode prog_13_method_31_code 169 = .ok (.goto (-78), 3) := by decide +kernel
theorem d_Mo_makeLengths_172 : decode prog_13_method_31_code 172 = .ok (.aload_n 0, 1) := by decide +kernel
theorem d_Mo_makeLengths_173 : decode prog_13_method_31_code 173 = .ok (.iload_n 1, 1) := by decide +kernel
theorem d_Mo_makeLengths_174 : decode prog_13_method_31_code 174 = .ok (.invokevirtual 154, 3) := by decide +kernel
theorem d_Mo_makeLengths_177 : decode prog_13_method_31_code 177 = .ok (.return_, 1) := by decide +kernel
theorem d_Mo_join_0 : decode prog_13_method_32_code 0 = .ok (.iconst 0, 1) := by decide +kernel
theorem d_Mo_join_1 : decode prog_13_method_32_code 1 = .ok (.istore_n 2, 1) := by decide +kernel
theorem d_Mo_join_2 : decode prog_13_method_32_code 2 = .ok (.iload_n 2, 1) := by decide +kernel
theorem d_Mo_join_3 : decode prog_13_method_32_code 3 = .ok (.iload_n 1, 1) := by decide +kernel
theorem d_Mo_join_4 : decode prog_13_method_32_code 4 = .ok (.if_icmp .ge 35, 3) := by decide +kernel
theorem d_Mo_join_7 : decode prog_13_method_32_code 7 = .ok (.aload_n 0, 1) := by decide +kernel
theorem d_Mo_join_8 : decode prog_13_method_32_code 8 = .ok (.getfield 43, 3) := by decide +kernel
theorem d_Mo_join_11 : decode prog_13_method_32_code 11 = .ok (.iload_n 2, 1) := by decide +kernel
theorem d_Mo_join_12 : decode prog_13_method_32_code 12 = .ok (.aload_n 0, 1) := by decide +kernel
theorem d_Mo_join_13 : decode prog_13_method_32_code 13 = .ok (.getfield 53, 3) := by decide +kernel
theorem d_Mo_join_16 : decode prog_13_method_32_code 16 = .ok (.iload_n 2, 1) := by decide +kernel
theorem d_Mo_join_17 : decode prog_13_method_32_code 17 = .ok (.laload, 1) := by decide +kernel
theorem d_Mo_join_18 : decode prog_13_method_32_code 18 = .ok (.lastore, 1) := by decide +kernel
theorem d_Mo_join_19 : decode prog_13_method_32_code 19 = .ok (.aload_n 0, 1) := by decide +kernel
theorem d_Mo_join_20 : decode prog_13_method_32_code 20 = .ok (.getfield 47, 3) := by decide +kernel
theorem d_Mo_join_23 : decode prog_13_method_32_code 23 = .ok (.iload_n 2, 1) := by decide +kernel
theorem d_Mo_join_24 : decode prog_13_method_32_code 24 = .ok (.iload_n 2, 1) := by decide +kernel
theorem d_Mo_join_25 : decode prog_13_method_32_code 25 = .ok (.iastore, 1) := by decide +kernel
theorem d_Mo_join_26 : decode prog_13_method_32_code 26 = .ok (.aload_n 0, 1) := by decide +kernel
theorem d_Mo_join_27 : decode prog_13_method_32_code 27 = .ok (.getfield 50, 3) := by decide +kernel
theorem d_Mo_join_30 : decode prog_13_method_32_code 30 = .ok (.iload_n 2, 1) := by decide +kernel
theorem d_Mo_join_31 : decode prog_13_method_32_code 31 = .ok (.iconst (-1), 1) := by decide +kernel
theorem d_Mo_join_32 : decode prog_13_method_32_code 32 = .ok (.iastore, 1) := by decide +kernel
theorem d_Mo_join_33 : decode prog_13_method_32_code 33 = .ok (.iinc 2 1, 3) := by decide +kernel
theorem d_Mo_join_36 : decode prog_13_method_32_code 36 = .ok (.goto (-34), 3) := by decide +kernel
theorem d_Mo_join_39 : decode prog_13_method_32_code 39 = .ok (.iload_n 1, 1) := by decide +kernel
theorem d_Mo_join_40 : decode prog_13_method_32_code 40 = .ok (.istore_n 2, 1) := by decide +kernel
theorem d_Mo_join_41 : decode prog_13_method_32_code 41 = .ok (.iload_n 1, 1) := by decide +kernel
theorem d_Mo_join_42 : decode prog_13_method_32_code 42 = .ok (.istore_n 3, 1) := by decide +kernel
theorem d_Mo_join_43 : decode prog_13_method_32_code 43 = .ok (.iload_n 3, 1) := by decide +kernel
theorem d_Mo_join_44 : decode prog_13_method_32_code 44 = .ok (.iconst 1, 1) := by decide +kernel
theorem d_Mo_join_45 : decode prog_13_method_32_code 45 = .ok (.if_icmp .le 113, 3) := by decide +kernel
theorem d_Mo_join_48 : decode prog_13_method_32_code 48 = .ok (.aload_n 0, 1) := by decide +kernel
theorem d_Mo_join_49 : decode prog_13_method_32_code 49 = .ok (.iload_n 2, 1) := by decide +kernel
theorem d_Mo_join_50 : decode prog_13_method_32_code 50 = .ok (.iconst (-1), 1) := by decide +kernel
theorem d_Mo_join_51 : decode prog_13_method_32_code 51 = .ok (.invokevirtual 157, 3) := by decide +kernel
theorem d_Mo_join_54 : decode prog_13_method_32_code 54 = .ok (.istore 4, 2) := by decide +kernel
theorem d_Mo_join_56 : decode prog_13_method_32_code 56 = .ok (.aload_n 0, 1) := by decide +kernel
theorem d_Mo_join_57 : decode prog_13_method_32_code 57 = .ok (.iload_n 2, 1) := by decide +kernel
theorem d_Mo_join_58 : decode prog_13_method_32_code 58 = .ok (.iload 4, 2) := by decide +kernel
theorem d_Mo_join_60 : decode prog_13_method_32_code 60 = .ok (.invokevirtual 157, 3) := by decide +kernel
theorem d_Mo_join_63 : decode prog_13_method_32_code 63 = .ok (.istore 5, 2) := by decide +kernel
theorem d_Mo_join_65 : decode prog_13_method_32_code 65 = .ok (.aload_n 0, 1) := by decide +kernel
theorem d_Mo_join_66 : decode prog_13_method_32_code 66 = .ok (.getfield 43, 3) := by decide +kernel
theorem d_Mo_join_69 : decode prog_13_method_32_code 69 = .ok (.iload_n 2, 1) := by decide +kernel
theorem d_Mo_join_70 : decode prog_13_method_32_code 70 = .ok (.aload_n 0, 1) := by decide +kernel
theorem d_Mo_join_71 : decode prog_13_method_32_code 71 = .ok (.getfield 43, 3) := by decide +kernel
theorem d_Mo_join_74 : decode prog_13_method_32_code 74 = .ok (.iload 4, 2) := by decide +kernel
theorem d_Mo_join_76 : decode prog_13_method_32_code 76 = .ok (.laload, 1) := by decide +kernel
theorem d_Mo_join_77 : decode prog_13_method_32_code 77 = .ok (.aload_n 0, 1) := by decide +kernel
theorem d_Mo_join_78 : decode prog_13_method_32_code 78 = .ok (.getfield 43, 3) := by decide +kernel
theorem d_Mo_join_81 : decode prog_13_method_32_code 81 = .ok (.iload 5, 2) := by decide +kernel
theorem d_Mo_join_83 : decode prog_13_method_32_code 83 = .ok (.laload, 1) := by decide +kernel
theorem d_Mo_join_84 : decode prog_13_method_32_code 84 = .ok (.ladd, 1) := by decide +kernel
theorem d_Mo_join_85 : decode prog_13_method_32_code 85 = .ok (.lastore, 1) := by decide +kernel
theorem d_Mo_join_86 : decode prog_13_method_32_code 86 = .ok (.aload_n 0, 1) := by decide +kernel
theorem d_Mo_join_87 : decode prog_13_method_32_code 87 = .ok (.getfield 47, 3) := by decide +kernel
theorem d_Mo_join_90 : decode prog_13_method_32_code 90 = .ok (.iload_n 2, 1) := by decide +kernel
theorem d_Mo_join_91 : decode prog_13_method_32_code 91 = .ok (.aload_n 0, 1) := by decide +kernel
theorem d_Mo_join_92 : decode prog_13_method_32_code 92 = .ok (.getfield 47, 3) := by decide +kernel
theorem d_Mo_join_95 : decode prog_13_method_32_code 95 = .ok (.iload 4, 2) := by decide +kernel
theorem d_Mo_join_97 : decode prog_13_method_32_code 97 = .ok (.iaload, 1) := by decide +kernel
theorem d_Mo_join_98 : decode prog_13_method_32_code 98 = .ok (.aload_n 0, 1) := by decide +kernel
theorem d_Mo_join_99 : decode prog_13_method_32_code 99 = .ok (.getfield 47, 3) := by decide +kernel
theorem d_Mo_join_102 : decode prog_13_method_32_code 102 = .ok (.iload 5, 2) := by decide +kernel
theorem d_Mo_join_104 : decode prog_13_method_32_code 104 = .ok (.iaload, 1) := by decide +kernel
theorem d_Mo_join_105 : decode prog_13_method_32_code 105 = .ok (.if_icmp .ge 13, 3) := by decide +kernel
theorem d_Mo_join_108 : decode prog_13_method_32_code 108 = .ok (.aload_n 0, 1) := by decide +kernel
theorem d_Mo_join_109 : decode prog_13_method_32_code 109 = .ok (.getfield 47, 3) := by decide +kernel
theorem d_Mo_join_112 : decode prog_13_method_32_code 112 = .ok (.iload 4, 2) := by decide +kernel
theorem d_Mo_join_114 : decode prog_13_method_32_code 114 = .ok (.iaload, 1) := by decide +kernel
theorem d_Mo_join_115 : decode prog_13_method_32_code 115 = .ok (.goto 10, 3) := by decide +kernel
theorem d_Mo_join_118 : decode prog_13_method_32_code 118 = .ok (.aload_n 0, 1) := by decide +kernel
theorem d_Mo_join_119 : decode prog_13_method_32_code 119 = .ok (.getfield 47, 3) := by decide +kernel
theorem d_Mo_join_122 : decode prog_13_method_32_code 122 = .ok (.iload 5, 2) := by decide +kernel
theorem d_Mo_join_124 : decode prog_13_method_32_code 124 = .ok (.iaload, 1) := by decide +kernel
theorem d_Mo_join_125 : decode prog_13_method_32_code 125 = .ok (.iastore, 1) := by decide +kernel
theorem d_Mo_join_126 : decode prog_13_method_32_code 126 = .ok (.aload_n 0, 1) := by decide +kernel
theorem d_Mo_join_127 : decode prog_13_method_32_code 127 = .ok (.getfield 50, 3) := by decide +kernel
theorem d_Mo_join_130 : decode prog_13_method_32_code 130 = .ok (.iload_n 2, 1) := by decide +kernel
theorem d_Mo_join_131 : decode prog_13_method_32_code 131 = .ok (.iconst (-1), 1) := by decide +kernel
theorem d_Mo_join_132 : decode prog_13_method_32_code 132 = .ok (.iastore, 1) := by decide +kernel
theorem d_Mo_join_133 : decode prog_13_method_32_code 133 = .ok (.aload_n 0, 1) := by decide +kernel
theorem d_Mo_join_134 : decode prog_13_method_32_code 134 = .ok (.getfield 50, 3) := by decide +kernel
theorem d_Mo_join_137 : decode prog_13_method_32_code 137 = .ok (.iload 4, 2) := by decide +kernel
theorem d_Mo_join_139 : decode prog_13_method_32_code 139 = .ok (.iload_n 2, 1) := by decide +kernel
theorem d_Mo_join_140 : decode prog_13_method_32_code 140 = .ok (.iastore, 1) := by decide +kernel
theorem d_Mo_join_141 : decode prog_13_method_32_code 141 = .ok (.aload_n 0, 1) := by decide +kernel
theorem d_Mo_join_142 : decode prog_13_method_32_code 142 = .ok (.getfield 50, 3) := by decide +kernel
theorem d_Mo_join_145 : decode prog_13_method_32_code 145 = .ok (.iload 5, 2) := by decide +kernel
theorem d_Mo_join_147 : decode prog_13_method_32_code 147 = .ok (.iload_n 2, 1) := by decide +kernel
theorem d_Mo_join_148 : decode prog_13_method_32_code 148 = .ok (.iinc 2 1, 3) := by decide +kernel
theorem d_Mo_join_151 : decode prog_13_method_32_code 151 = .ok (.iastore, 1) := by decide +kernel
theorem d_Mo_join_152 : decode prog_13_method_32_code 152 = .ok (.iinc 3 (-1), 3) := by decide +kernel
theorem d_Mo_join_155 : decode prog_13_method_32_code 155 = .ok (.goto (-112), 3) := by decide +kernel
theorem d_Mo_join_158 : decode prog_13_method_32_code 158 = .ok (.iconst 0, 1) := by decide +kernel
theorem d_Mo_join_159 : decode prog_13_method_32_code 159 = .ok (.istore_n 3, 1) := by decide +kernel
theorem d_Mo_join_160 : decode prog_13_method_32_code 160 = .ok (.iload_n 3, 1) := by decide +kernel
theorem d_Mo_join_161 : decode prog_13_method_32_code 161 = .ok (.iload_n 1, 1) := by decide +kernel
theorem d_Mo_join_162 : decode prog_13_method_32_code 162 = .ok (.if_icmp .ge 51, 3) := by decide +kernel
theorem d_Mo_join_165 : decode prog_13_method_32_code 165 = .ok (.aload_n 0, 1) := by decide +kernel
theorem d_Mo_join_166 : decode prog_13_method_32_code 166 = .ok (.getfield 37, 3) := by decide +kernel
theorem d_Mo_join_169 : decode prog_13_method_32_code 169 = .ok (.iload_n 3, 1) := by decide +kernel
theorem d_Mo_join_170 : decode prog_13_method_32_code 170 = .ok (.iconst 0, 1) := by decide +kernel
theorem d_Mo_join_171 : decode prog_13_method_32_code 171 = .ok (.iastore, 1) := by decide +kernel
theorem d_Mo_join_172 : decode prog_13_method_32_code 172 = .ok (.aload_n 0, 1) := by decide +kernel
theorem d_Mo_join_173 : decode prog_13_method_32_code 173 = .ok (.getfield 50, 3) := by decide +kernel
theorem d_Mo_join_176 : decode prog_13_method_32_code 176 = .ok (.iload_n 3, 1) := by decide +kernel
theorem d_Mo_join_177 : decode prog_13_method_32_code 177 = .ok (.iaload, 1) := by decide +kernel
theorem d_Mo_join_178 : decode prog_13_method_32_code 178 = .ok (.istore 4, 2) := by decide +kernel
theorem d_Mo_join_180 : decode prog_13_method_32_code 180 = .ok (.iload 4, 2) := by decide +kernel
theorem d_Mo_join_182 : decode prog_13_method_32_code 182 = .ok (.ifCond .lt 25, 3) := by decide +kernel
theorem d_Mo_join_185 : decode prog_13_method_32_code 185 = .ok (.aload_n 0, 1) := by decide +kernel
theorem d_Mo_join_186 : decode prog_13_method_32_code 186 = .ok (.getfield 37, 3) := by decide +kernel
theorem d_Mo_join_189 : decode prog_13_method_32_code 189 = .ok (.iload_n 3, 1) := by decide +kernel
theorem d_Mo_join_190 : decode prog_13_method_32_code 190 = .ok (.dup2, 1) := by decide +kernel
theorem d_Mo_join_191 : decode prog_13_method_32_code 191 = .ok (.iaload, 1) := by decide +kernel
theorem d_Mo_join_192 : decode prog_13_method_32_code 192 = .ok (.iconst 1, 1) := by decide +kernel
theorem d_Mo_join_193 : decode prog_13_method_32_code 193 = .ok (.iadd, 1) := by decide +kernel
theorem d_Mo_join_194 : decode prog_13_method_32_code 194 = .ok (.iastore, 1) := by decide +kernel
theorem d_Mo_join_195 : decode prog_13_method_32_code 195 = .ok (.aload_n 0, 1) := by decide +kernel
theorem d_Mo_join_196 : decode prog_13_method_32_code 196 = .ok (.getfield 50, 3) := by decide +kernel
theorem d_Mo_join_199 : decode prog_13_method_32_code 199 = .ok (.iload 4, 2) := by decide +kernel
theorem d_Mo_join_201 : decode prog_13_method_32_code 201 = .ok (.iaload, 1) := by decide +kernel
theorem d_Mo_join_202 : decode prog_13_method_32_code 202 = .ok (.istore 4, 2) := by decide +kernel
theorem d_Mo_join_204 : decode prog_13_method_32_code 204 = .ok (.goto (-24), 3) := by decide +kernel
theorem d_Mo_join_207 : decode prog_13_method_32_code 207 = .ok (.iinc 3 1, 3) := by decide +kernel
theorem d_Mo_join_210 : decode prog_13_method_32_code 210 = .ok (.goto (-50), 3) := by decide +kernel
theorem d_Mo_join_213 : decode prog_13_method_32_code 213 = .ok (.return_, 1) := by decide +kernel
theorem d_Mo_lightest_0 : decode prog_13_method_33_code 0 = .ok (.iconst (-1), 1) := by decide +kernel
theorem d_Mo_lightest_1 : decode prog_13_method_33_code 1 = .ok (.istore_n 3, 1) := by decide +kernel
theorem d_Mo_lightest_2 : decode prog_13_method_33_code 2 = .ok (.iconst 0, 1) := by decide +kernel
theorem d_Mo_lightest_3 : decode prog_13_method_33_code 3 = .ok (.istore 4, 2) := by decide +kernel
theorem d_Mo_lightest_5 : decode prog_13_method_33_code 5 = .ok (.iload 4, 2) := by decide +kernel
theorem d_Mo_lightest_7 : decode prog_13_method_33_code 7 = .ok (.iload_n 1, 1) := by decide +kernel
theorem d_Mo_lightest_8 : decode prog_13_method_33_code 8 = .ok (.if_icmp .ge 85, 3) := by decide +kernel
theorem d_Mo_lightest_11 : decode prog_13_method_33_code 11 = .ok (.aload_n 0, 1) := by decide +kernel
theorem d_Mo_lightest_12 : decode prog_13_method_33_code 12 = .ok (.getfield 50, 3) := by decide +kernel
theorem d_Mo_lightest_15 : decode prog_13_method_33_code 15 = .ok (.iload 4, 2) := by decide +kernel
theorem d_Mo_lightest_17 : decode prog_13_method_33_code 17 = .ok (.iaload, 1) := by decide +kernel
theorem d_Mo_lightest_18 : decode prog_13_method_33_code 18 = .ok (.ifCond .ge 69, 3) := by decide +kernel
theorem d_Mo_lightest_21 : decode prog_13_method_33_code 21 = .ok (.iload 4, 2) := by decide +kernel
theorem d_Mo_lightest_23 : decode prog_13_method_33_code 23 = .ok (.iload_n 2, 1) := by decide +kernel
theorem d_Mo_lightest_24 : decode prog_13_method_33_code 24 = .ok (.if_icmp .ne 6, 3) := by decide +kernel
theorem d_Mo_lightest_27 : decode prog_13_method_33_code 27 = .ok (.goto 60, 3) := by decide +kernel
theorem d_Mo_lightest_30 : decode prog_13_method_33_code 30 = .ok (.iload_n 3, 1) := by decide +kernel
theorem d_Mo_lightest_31 : decode prog_13_method_33_code 31 = .ok (.ifCond .lt 53, 3) := by decide +kernel
theorem d_Mo_lightest_34 : decode prog_13_method_33_code 34 = .ok (.aload_n 0, 1) := by decide +kernel
theorem d_Mo_lightest_35 : decode prog_13_method_33_code 35 = .ok (.getfield 43, 3) := by decide +kernel
theorem d_Mo_lightest_38 : decode prog_13_method_33_code 38 = .ok (.iload 4, 2) := by decide +kernel
theorem d_Mo_lightest_40 : decode prog_13_method_33_code 40 = .ok (.laload, 1) := by decide +kernel
theorem d_Mo_lightest_41 : decode prog_13_method_33_code 41 = .ok (.aload_n 0, 1) := by decide +kernel
theorem d_Mo_lightest_42 : decode prog_13_method_33_code 42 = .ok (.getfield 43, 3) := by decide +kernel
theorem d_Mo_lightest_45 : decode prog_13_method_33_code 45 = .ok (.iload_n 3, 1) := by decide +kernel
theorem d_Mo_lightest_46 : decode prog_13_method_33_code 46 = .ok (.laload, 1) := by decide +kernel
theorem d_Mo_lightest_47 : decode prog_13_method_33_code 47 = .ok (.lcmp, 1) := by decide +kernel
theorem d_Mo_lightest_48 : decode prog_13_method_33_code 48 = .ok (.ifCond .lt 36, 3) := by decide +kernel
theorem d_Mo_lightest_51 : decode prog_13_method_33_code 51 = .ok (.aload_n 0, 1) := by decide +kernel
theorem d_Mo_lightest_52 : decode prog_13_method_33_code 52 = .ok (.getfield 43, 3) := by decide +kernel
theorem d_Mo_lightest_55 : decode prog_13_method_33_code 55 = .ok (.iload 4, 2) := by decide +kernel
theorem d_Mo_lightest_57 : decode prog_13_method_33_code 57 = .ok (.laload, 1) := by decide +kernel
theorem d_Mo_lightest_58 : decode prog_13_method_33_code 58 = .ok (.aload_n 0, 1) := by decide +kernel
theorem d_Mo_lightest_59 : decode prog_13_method_33_code 59 = .ok (.getfield 43, 3) := by decide +kernel
theorem d_Mo_lightest_62 : decode prog_13_method_33_code 62 = .ok (.iload_n 3, 1) := by decide +kernel
theorem d_Mo_lightest_63 : decode prog_13_method_33_code 63 = .ok (.laload, 1) := by decide +kernel
theorem d_Mo_lightest_64 : decode prog_13_method_33_code 64 = .ok (.lcmp, 1) := by decide +kernel
theorem d_Mo_lightest_65 : decode prog_13_method_33_code 65 = .ok (.ifCond .ne 22, 3) := by decide +kernel
theorem d_Mo_lightest_68 : decode prog_13_method_33_code 68 = .ok (.aload_n 0, 1) := by decide +kernel
theorem d_Mo_lightest_69 : decode prog_13_method_33_code 69 = .ok (.getfield 47, 3) := by decide +kernel
theorem d_Mo_lightest_72 : decode prog_13_method_33_code 72 = .ok (.iload 4, 2) := by decide +kernel
theorem d_Mo_lightest_74 : decode prog_13_method_33_code 74 = .ok (.iaload, 1) := by decide +kernel
theorem d_Mo_lightest_75 : decode prog_13_method_33_code 75 = .ok (.aload_n 0, 1) := by decide +kernel
theorem d_Mo_lightest_76 : decode prog_13_method_33_code 76 = .ok (.getfield 47, 3) := by decide +kernel
theorem d_Mo_lightest_79 : decode prog_13_method_33_code 79 = .ok (.iload_n 3, 1) := by decide +kernel
theorem d_Mo_lightest_80 : decode prog_13_method_33_code 80 = .ok (.iaload, 1) := by decide +kernel
theorem d_Mo_lightest_81 : decode prog_13_method_33_code 81 = .ok (.if_icmp .ge 6, 3) := by decide +kernel
theorem d_Mo_lightest_84 : decode prog_13_method_33_code 84 = .ok (.iload 4, 2) := by decide +kernel
theorem d_Mo_lightest_86 : decode prog_13_method_33_code 86 = .ok (.istore_n 3, 1) := by decide +kernel
theorem d_Mo_lightest_87 : decode prog_13_method_33_code 87 = .ok (.iinc 4 1, 3) := by decide +kernel
theorem d_Mo_lightest_90 : decode prog_13_method_33_code 90 = .ok (.goto (-85), 3) := by decide +kernel
theorem d_Mo_lightest_93 : decode prog_13_method_33_code 93 = .ok (.iload_n 3, 1) := by decide +kernel
theorem d_Mo_lightest_94 : decode prog_13_method_33_code 94 = .ok (.ireturn, 1) := by decide +kernel
theorem d_Mo_makeCodes_0 : decode prog_13_method_34_code 0 = .ok (.iconst 0, 1) := by decide +kernel
theorem d_Mo_makeCodes_1 : decode prog_13_method_34_code 1 = .ok (.istore_n 2, 1) := by decide +kernel
theorem d_Mo_makeCodes_2 : decode prog_13_method_34_code 2 = .ok (.iconst 0, 1) := by decide +kernel
theorem d_Mo_makeCodes_3 : decode prog_13_method_34_code 3 = .ok (.istore_n 3, 1) := by decide +kernel
theorem d_Mo_makeCodes_4 : decode prog_13_method_34_code 4 = .ok (.iconst 1, 1) := by decide +kernel
theorem d_Mo_makeCodes_5 : decode prog_13_method_34_code 5 = .ok (.istore 4, 2) := by decide +kernel
theorem d_Mo_makeCodes_7 : decode prog_13_method_34_code 7 = .ok (.iload 4, 2) := by decide +kernel
theorem d_Mo_makeCodes_9 : decode prog_13_method_34_code 9 = .ok (.bipush 12, 2) := by decide +kernel
theorem d_Mo_makeCodes_11 : decode prog_13_method_34_code 11 = .ok (.if_icmp .gt 63, 3) := by decide +kernel
theorem d_Mo_makeCodes_14 : decode prog_13_method_34_code 14 = .ok (.iconst 0, 1) := by decide +kernel
theorem d_Mo_makeCodes_15 : decode prog_13_method_34_code 15 = .ok (.istore 5, 2) := by decide +kernel
theorem d_Mo_makeCodes_17 : decode prog_13_method_34_code 17 = .ok (.iload 5, 2) := by decide +kernel
theorem d_Mo_makeCodes_19 : decode prog_13_method_34_code 19 = .ok (.iload_n 1, 1) := by decide +kernel
theorem d_Mo_makeCodes_20 : decode prog_13_method_34_code 20 = .ok (.if_icmp .ge 48, 3) := by decide +kernel
theorem d_Mo_makeCodes_23 : decode prog_13_method_34_code 23 = .ok (.aload_n 0, 1) := by decide +kernel
theorem d_Mo_makeCodes_24 : decode prog_13_method_34_code 24 = .ok (.getfield 37, 3) := by decide +kernel
theorem d_Mo_makeCodes_27 : decode prog_13_method_34_code 27 = .ok (.iload 5, 2) := by decide +kernel
theorem d_Mo_makeCodes_29 : decode prog_13_method_34_code 29 = .ok (.iaload, 1) := by decide +kernel
theorem d_Mo_makeCodes_30 : decode prog_13_method_34_code 30 = .ok (.iload 4, 2) := by decide +kernel
theorem d_Mo_makeCodes_32 : decode prog_13_method_34_code 32 = .ok (.if_icmp .eq 6, 3) := by decide +kernel
theorem d_Mo_makeCodes_35 : decode prog_13_method_34_code 35 = .ok (.goto 27, 3) := by decide +kernel
theorem d_Mo_makeCodes_38 : decode prog_13_method_34_code 38 = .ok (.iload_n 3, 1) := by decide +kernel
theorem d_Mo_makeCodes_39 : decode prog_13_method_34_code 39 = .ok (.ifCond .le 12, 3) := by decide +kernel
theorem d_Mo_makeCodes_42 : decode prog_13_method_34_code 42 = .ok (.iload_n 2, 1) := by decide +kernel
theorem d_Mo_makeCodes_43 : decode prog_13_method_34_code 43 = .ok (.iconst 1, 1) := by decide +kernel
theorem d_Mo_makeCodes_44 : decode prog_13_method_34_code 44 = .ok (.iadd, 1) := by decide +kernel
theorem d_Mo_makeCodes_45 : decode prog_13_method_34_code 45 = .ok (.iload 4, 2) := by decide +kernel
theorem d_Mo_makeCodes_47 : decode prog_13_method_34_code 47 = .ok (.iload_n 3, 1) := by decide +kernel
theorem d_Mo_makeCodes_48 : decode prog_13_method_34_code 48 = .ok (.isub, 1) := by decide +kernel
theorem d_Mo_makeCodes_49 : decode prog_13_method_34_code 49 = .ok (.ishl, 1) := by decide +kernel
theorem d_Mo_makeCodes_50 : decode prog_13_method_34_code 50 = .ok (.istore_n 2, 1) := by decide +kernel
theorem d_Mo_makeCodes_51 : decode prog_13_method_34_code 51 = .ok (.iload 4, 2) := by decide +kernel
theorem d_Mo_makeCodes_53 : decode prog_13_method_34_code 53 = .ok (.istore_n 3, 1) := by decide +kernel
theorem d_Mo_makeCodes_54 : decode prog_13_method_34_code 54 = .ok (.aload_n 0, 1) := by decide +kernel
theorem d_Mo_makeCodes_55 : decode prog_13_method_34_code 55 = .ok (.getfield 40, 3) := by decide +kernel
theorem d_Mo_makeCodes_58 : decode prog_13_method_34_code 58 = .ok (.iload 5, 2) := by decide +kernel
theorem d_Mo_makeCodes_60 : decode prog_13_method_34_code 60 = .ok (.iload_n 2, 1) := by decide +kernel
theorem d_Mo_makeCodes_61 : decode prog_13_method_34_code 61 = .ok (.iastore, 1) := by decide +kernel
theorem d_Mo_makeCodes_62 : decode prog_13_method_34_code 62 = .ok (.iinc 5 1, 3) := by decide +kernel
theorem d_Mo_makeCodes_65 : decode prog_13_method_34_code 65 = .ok (.goto (-48), 3) := by decide +kernel
theorem d_Mo_makeCodes_68 : decode prog_13_method_34_code 68 = .ok (.iinc 4 1, 3) := by decide +kernel
theorem d_Mo_makeCodes_71 : decode prog_13_method_34_code 71 = .ok (.goto (-64), 3) := by decide +kernel
theorem d_Mo_makeCodes_74 : decode prog_13_method_34_code 74 = .ok (.return_, 1) := by decide +kernel
theorem d_Mo_symbol_0 : decode prog_13_method_35_code 0 = .ok (.aload_n 0, 1) := by decide +kernel
theorem d_Mo_symbol_1 : decode prog_13_method_35_code 1 = .ok (.invokevirtual 101, 3) := by decide +kernel
theorem d_Mo_symbol_4 : decode prog_13_method_35_code 4 = .ok (.aload_n 0, 1) := by decide +kernel
theorem d_Mo_symbol_5 : decode prog_13_method_35_code 5 = .ok (.invokevirtual 160, 3) := by decide +kernel
theorem d_Mo_symbol_8 : decode prog_13_method_35_code 8 = .ok (.iload_n 1, 1) := by decide +kernel
theorem d_Mo_symbol_9 : decode prog_13_method_35_code 9 = .ok (.i2l, 1) := by decide +kernel
theorem d_Mo_symbol_10 : decode prog_13_method_35_code 10 = .ok (.lconst 0, 1) := by decide +kernel
theorem d_Mo_symbol_11 : decode prog_13_method_35_code 11 = .ok (.aload_n 0, 1) := by decide +kernel
theorem d_Mo_symbol_12 : decode prog_13_method_35_code 12 = .ok (.getfield 135, 3) := by decide +kernel
theorem d_Mo_symbol_15 : decode prog_13_method_35_code 15 = .ok (.iconst 1, 1) := by decide +kernel
theorem d_Mo_symbol_16 : decode prog_13_method_35_code 16 = .ok (.isub, 1) := by decide +kernel
theorem d_Mo_symbol_17 : decode prog_13_method_35_code 17 = .ok (.i2l, 1) := by decide +kernel
theorem d_Mo_symbol_18 : decode prog_13_method_35_code 18 = .ok (.invokestatic 72, 3) := by decide +kernel
theorem d_Mo_symbol_21 : decode prog_13_method_35_code 21 = .ok (.ifCond .eq 12, 3) := by decide +kernel
theorem d_Mo_symbol_24 : decode prog_13_method_35_code 24 = .ok (.aload_n 0, 1) := by decide +kernel
theorem d_Mo_symbol_25 : decode prog_13_method_35_code 25 = .ok (.getfield 34, 3) := by decide +kernel
theorem d_Mo_symbol_28 : decode prog_13_method_35_code 28 = .ok (.iload_n 1, 1) := by decide +kernel
theorem d_Mo_symbol_29 : decode prog_13_method_35_code 29 = .ok (.iaload, 1) := by decide +kernel
theorem d_Mo_symbol_30 : decode prog_13_method_35_code 30 = .ok (.goto 5, 3) := by decide +kernel
theorem d_Mo_symbol_33 : decode prog_13_method_35_code 33 = .ok (.bipush (-2), 2) := by decide +kernel
theorem d_Mo_symbol_35 : decode prog_13_method_35_code 35 = .ok (.ireturn, 1) := by decide +kernel
theorem d_Mo_code_0 : decode prog_13_method_36_code 0 = .ok (.aload_n 0, 1) := by decide +kernel
theorem d_Mo_code_1 : decode prog_13_method_36_code 1 = .ok (.invokevirtual 101, 3) := by decide +kernel
theorem d_Mo_code_4 : decode prog_13_method_36_code 4 = .ok (.aload_n 0, 1) := by decide +kernel
theorem d_Mo_code_5 : decode prog_13_method_36_code 5 = .ok (.invokevirtual 160, 3) := by decide +kernel
theorem d_Mo_code_8 : decode prog_13_method_36_code 8 = .ok (.iload_n 1, 1) := by decide +kernel
theorem d_Mo_code_9 : decode prog_13_method_36_code 9 = .ok (.i2l, 1) := by decide +kernel
theorem d_Mo_code_10 : decode prog_13_method_36_code 10 = .ok (.lconst 0, 1) := by decide +kernel
theorem d_Mo_code_11 : decode prog_13_method_36_code 11 = .ok (.aload_n 0, 1) := by decide +kernel
theorem d_Mo_code_12 : decode prog_13_method_36_code 12 = .ok (.getfield 138, 3) := by decide +kernel
theorem d_Mo_code_15 : decode prog_13_method_36_code 15 = .ok (.iconst 1, 1) := by decide +kernel
theorem d_Mo_code_16 : decode prog_13_method_36_code 16 = .ok (.iadd, 1) := by decide +kernel
theorem d_Mo_code_17 : decode prog_13_method_36_code 17 = .ok (.i2l, 1) := by decide +kernel
theorem d_Mo_code_18 : decode prog_13_method_36_code 18 = .ok (.invokestatic 72, 3) := by decide +kernel
theorem d_Mo_code_21 : decode prog_13_method_36_code 21 = .ok (.ifCond .eq 13, 3) := by decide +kernel
theorem d_Mo_code_24 : decode prog_13_method_36_code 24 = .ok (.iload_n 2, 1) := by decide +kernel
theorem d_Mo_code_25 : decode prog_13_method_36_code 25 = .ok (.i2l, 1) := by decide +kernel
theorem d_Mo_code_26 : decode prog_13_method_36_code 26 = .ok (.lconst 0, 1) := by decide +kernel
theorem d_Mo_code_27 : decode prog_13_method_36_code 27 = .ok (.lconst 1, 1) := by decide +kernel
theorem d_Mo_code_28 : decode prog_13_method_36_code 28 = .ok (.invokestatic 72, 3) := by decide +kernel
theorem d_Mo_code_31 : decode prog_13_method_36_code 31 = .ok (.ifCond .ne 5, 3) := by decide +kernel
theorem d_Mo_code_34 : decode prog_13_method_36_code 34 = .ok (.iconst (-1), 1) := by decide +kernel
theorem d_Mo_code_35 : decode prog_13_method_36_code 35 = .ok (.ireturn, 1) := by decide +kernel
theorem d_Mo_code_36 : decode prog_13_method_36_code 36 = .ok (.aload_n 0, 1) := by decide +kernel
theorem d_Mo_code_37 : decode prog_13_method_36_code 37 = .ok (.invokevirtual 163, 3) := by decide +kernel
theorem d_Mo_code_40 : decode prog_13_method_36_code 40 = .ok (.iload_n 2, 1) := by decide +kernel
theorem d_Mo_code_41 : decode prog_13_method_36_code 41 = .ok (.ifCond .ne 12, 3) := by decide +kernel
theorem d_Mo_code_44 : decode prog_13_method_36_code 44 = .ok (.aload_n 0, 1) := by decide +kernel
theorem d_Mo_code_45 : decode prog_13_method_36_code 45 = .ok (.getfield 37, 3) := by decide +kernel
theorem d_Mo_code_48 : decode prog_13_method_36_code 48 = .ok (.iload_n 1, 1) := by decide +kernel
theorem d_Mo_code_49 : decode prog_13_method_36_code 49 = .ok (.iaload, 1) := by decide +kernel
theorem d_Mo_code_50 : decode prog_13_method_36_code 50 = .ok (.goto 9, 3) := by decide +kernel
theorem d_Mo_code_53 : decode prog_13_method_36_code 53 = .ok (.aload_n 0, 1) := by decide +kernel
theorem d_Mo_code_54 : decode prog_13_method_36_code 54 = .ok (.getfield 40, 3) := by decide +kernel
theorem d_Mo_code_57 : decode prog_13_method_36_code 57 = .ok (.iload_n 1, 1) := by decide +kernel
theorem d_Mo_code_58 : decode prog_13_method_36_code 58 = .ok (.iaload, 1) := by decide +kernel
theorem d_Mo_code_59 : decode prog_13_method_36_code 59 = .ok (.ireturn, 1) := by decide +kernel
theorem d_Mo_bits_0 : decode prog_13_method_37_code 0 = .ok (.aload_n 0, 1) := by decide +kernel
theorem d_Mo_bits_1 : decode prog_13_method_37_code 1 = .ok (.invokevirtual 101, 3) := by decide +kernel
theorem d_Mo_bits_4 : decode prog_13_method_37_code 4 = .ok (.aload_n 0, 1) := by decide +kernel
theorem d_Mo_bits_5 : decode prog_13_method_37_code 5 = .ok (.invokevirtual 160, 3) := by decide +kernel
theorem d_Mo_bits_8 : decode prog_13_method_37_code 8 = .ok (.aload_n 0, 1) := by decide +kernel
theorem d_Mo_bits_9 : decode prog_13_method_37_code 9 = .ok (.invokevirtual 163, 3) := by decide +kernel
theorem d_Mo_bits_12 : decode prog_13_method_37_code 12 = .ok (.iconst 0, 1) := by decide +kernel
theorem d_Mo_bits_13 : decode prog_13_method_37_code 13 = .ok (.istore_n 1, 1) := by decide +kernel
theorem d_Mo_bits_14 : decode prog_13_method_37_code 14 = .ok (.iconst 0, 1) := by decide +kernel
theorem d_Mo_bits_15 : decode prog_13_method_37_code 15 = .ok (.istore_n 2, 1) := by decide +kernel
theorem d_Mo_bits_16 : decode prog_13_method_37_code 16 = .ok (.iload_n 2, 1) := by decide +kernel
theorem d_Mo_bits_17 : decode prog_13_method_37_code 17 = .ok (.aload_n 0, 1) := by decide +kernel
theorem d_Mo_bits_18 : decode prog_13_method_37_code 18 = .ok (.getfield 135, 3) := by decide +kernel
theorem d_Mo_bits_21 : decode prog_13_method_37_code 21 = .ok (.if_icmp .ge 23, 3) := by decide +kernel
theorem d_Mo_bits_24 : decode prog_13_method_37_code 24 = .ok (.iload_n 1, 1) := by decide +kernel
theorem d_Mo_bits_25 : decode prog_13_method_37_code 25 = .ok (.aload_n 0, 1) := by decide +kernel
theorem d_Mo_bits_26 : decode prog_13_method_37_code 26 = .ok (.getfield 37, 3) := by decide +kernel
theorem d_Mo_bits_29 : decode prog_13_method_37_code 29 = .ok (.aload_n 0, 1) := by decide +kernel
theorem d_Mo_bits_30 : decode prog_13_method_37_code 30 = .ok (.getfield 34, 3) := by decide +kernel
theorem d_Mo_bits_33 : decode prog_13_method_37_code 33 = .ok (.iload_n 2, 1) := by decide +kernel
theorem d_Mo_bits_34 : decode prog_13_method_37_code 34 = .ok (.iaload, 1) := by decide +kernel
theorem d_Mo_bits_35 : decode prog_13_method_37_code 35 = .ok (.iaload, 1) := by decide +kernel
theorem d_Mo_bits_36 : decode prog_13_method_37_code 36 = .ok (.iadd, 1) := by decide +kernel
theorem d_Mo_bits_37 : decode prog_13_method_37_code 37 = .ok (.istore_n 1, 1) := by decide +kernel
theorem d_Mo_bits_38 : decode prog_13_method_37_code 38 = .ok (.iinc 2 1, 3) := by decide +kernel
theorem d_Mo_bits_41 : decode prog_13_method_37_code 41 = .ok (.goto (-25), 3) := by decide +kernel
theorem d_Mo_bits_44 : decode prog_13_method_37_code 44 = .ok (.iload_n 1, 1) := by decide +kernel
theorem d_Mo_bits_45 : decode prog_13_method_37_code 45 = .ok (.ireturn, 1) := by decide +kernel

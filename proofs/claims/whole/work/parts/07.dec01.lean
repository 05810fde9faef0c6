theorem d_S_byteOf_0 : decode prog_1_method_35_code 0 = .ok (.lload_n 0, 1) := by decide +kernel
theorem d_S_byteOf_1 : decode prog_1_method_35_code 1 = .ok (.bipush 8, 2) := by decide +kernel
theorem d_S_byteOf_3 : decode prog_1_method_35_code 3 = .ok (.iload_n 2, 1) := by decide +kernel
theorem d_S_byteOf_4 : decode prog_1_method_35_code 4 = .ok (.imul, 1) := by decide +kernel
theorem d_S_byteOf_5 : decode prog_1_method_35_code 5 = .ok (.lushr, 1) := by decide +kernel
theorem d_S_byteOf_6 : decode prog_1_method_35_code 6 = .ok (.l2i, 1) := by decide +kernel
theorem d_S_byteOf_7 : decode prog_1_method_35_code 7 = .ok (.sipush 255, 3) := by decide +kernel
theorem d_S_byteOf_10 : decode prog_1_method_35_code 10 = .ok (.iand, 1) := by decide +kernel
theorem d_S_byteOf_11 : decode prog_1_method_35_code 11 = .ok (.ireturn, 1) := by decide +kernel
theorem d_S_isByte_0 : decode prog_1_method_36_code 0 = .ok (.iload_n 0, 1) := by decide +kernel
theorem d_S_isByte_1 : decode prog_1_method_36_code 1 = .ok (.ifCond .lt 14, 3) := by decide +kernel
theorem d_S_isByte_4 : decode prog_1_method_36_code 4 = .ok (.iload_n 0, 1) := by decide +kernel
theorem d_S_isByte_5 : decode prog_1_method_36_code 5 = .ok (.sipush 256, 3) := by decide +kernel
theorem d_S_isByte_8 : decode prog_1_method_36_code 8 = .ok (.if_icmp .ge 7, 3) := by decide +kernel
theorem d_S_isByte_11 : decode prog_1_method_36_code 11 = .ok (.iconst 1, 1) := by decide +kernel
theorem d_S_isByte_12 : decode prog_1_method_36_code 12 = .ok (.goto 4, 3) := by decide +kernel
theorem d_S_isByte_15 : decode prog_1_method_36_code 15 = .ok (.iconst 0, 1) := by decide +kernel
theorem d_S_isByte_16 : decode prog_1_method_36_code 16 = .ok (.ireturn, 1) := by decide +kernel
theorem d_S_checkOf_0 : decode prog_1_method_37_code 0 = .ok (.iconst (-1), 1) := by decide +kernel
theorem d_S_checkOf_1 : decode prog_1_method_37_code 1 = .ok (.istore_n 1, 1) := by decide +kernel
theorem d_S_checkOf_2 : decode prog_1_method_37_code 2 = .ok (.iconst 0, 1) := by decide +kernel
theorem d_S_checkOf_3 : decode prog_1_method_37_code 3 = .ok (.istore_n 2, 1) := by decide +kernel
theorem d_S_checkOf_4 : decode prog_1_method_37_code 4 = .ok (.iload_n 2, 1) := by decide +kernel
theorem d_S_checkOf_5 : decode prog_1_method_37_code 5 = .ok (.aload_n 0, 1) := by decide +kernel
theorem d_S_checkOf_6 : decode prog_1_method_37_code 6 = .ok (.getfield 60, 3) := by decide +kernel
theorem d_S_checkOf_9 : decode prog_1_method_37_code 9 = .ok (.if_icmp .ge 51, 3) := by decide +kernel
theorem d_S_checkOf_12 : decode prog_1_method_37_code 12 = .ok (.iload_n 1, 1) := by decide +kernel
theorem d_S_checkOf_13 : decode prog_1_method_37_code 13 = .ok (.aload_n 0, 1) := by decide +kernel
theorem d_S_checkOf_14 : decode prog_1_method_37_code 14 = .ok (.iload_n 2, 1) := by decide +kernel
theorem d_S_checkOf_15 : decode prog_1_method_37_code 15 = .ok (.invokevirtual 67, 3) := by decide +kernel
theorem d_S_checkOf_18 : decode prog_1_method_37_code 18 = .ok (.bipush 24, 2) := by decide +kernel
theorem d_S_checkOf_20 : decode prog_1_method_37_code 20 = .ok (.ishl, 1) := by decide +kernel
theorem d_S_checkOf_21 : decode prog_1_method_37_code 21 = .ok (.ixor, 1) := by decide +kernel
theorem d_S_checkOf_22 : decode prog_1_method_37_code 22 = .ok (.istore_n 1, 1) := by decide +kernel
theorem d_S_checkOf_23 : decode prog_1_method_37_code 23 = .ok (.iconst 0, 1) := by decide +kernel
theorem d_S_checkOf_24 : decode prog_1_method_37_code 24 = .ok (.istore_n 3, 1) := by decide +kernel
theorem d_S_checkOf_25 : decode prog_1_method_37_code 25 = .ok (.iload_n 3, 1) := by decide +kernel
theorem d_S_checkOf_26 : decode prog_1_method_37_code 26 = .ok (.bipush 8, 2) := by decide +kernel
theorem d_S_checkOf_28 : decode prog_1_method_37_code 28 = .ok (.if_icmp .ge 26, 3) := by decide +kernel
theorem d_S_checkOf_31 : decode prog_1_method_37_code 31 = .ok (.iload_n 1, 1) := by decide +kernel
theorem d_S_checkOf_32 : decode prog_1_method_37_code 32 = .ok (.ifCond .ge 12, 3) := by decide +kernel
theorem d_S_checkOf_35 : decode prog_1_method_37_code 35 = .ok (.iload_n 1, 1) := by decide +kernel
theorem d_S_checkOf_36 : decode prog_1_method_37_code 36 = .ok (.iconst 1, 1) := by decide +kernel
theorem d_S_checkOf_37 : decode prog_1_method_37_code 37 = .ok (.ishl, 1) := by decide +kernel
theorem d_S_checkOf_38 : decode prog_1_method_37_code 38 = .ok (.ldc 214, 2) := by decide +kernel
theorem d_S_checkOf_40 : decode prog_1_method_37_code 40 = .ok (.ixor, 1) := by decide +kernel
theorem d_S_checkOf_41 : decode prog_1_method_37_code 41 = .ok (.goto 6, 3) := by decide +kernel
theorem d_S_checkOf_44 : decode prog_1_method_37_code 44 = .ok (.iload_n 1, 1) := by decide +kernel
theorem d_S_checkOf_45 : decode prog_1_method_37_code 45 = .ok (.iconst 1, 1) := by decide +kernel
theorem d_S_checkOf_46 : decode prog_1_method_37_code 46 = .ok (.ishl, 1) := by decide +kernel
theorem d_S_checkOf_47 : decode prog_1_method_37_code 47 = .ok (.istore_n 1, 1) := by decide +kernel
theorem d_S_checkOf_48 : decode prog_1_method_37_code 48 = .ok (.iinc 3 1, 3) := by decide +kernel
theorem d_S_checkOf_51 : decode prog_1_method_37_code 51 = .ok (.goto (-26), 3) := by decide +kernel
theorem d_S_checkOf_54 : decode prog_1_method_37_code 54 = .ok (.iinc 2 1, 3) := by decide +kernel
theorem d_S_checkOf_57 : decode prog_1_method_37_code 57 = .ok (.goto (-53), 3) := by decide +kernel
theorem d_S_checkOf_60 : decode prog_1_method_37_code 60 = .ok (.iload_n 1, 1) := by decide +kernel
theorem d_S_checkOf_61 : decode prog_1_method_37_code 61 = .ok (.iconst (-1), 1) := by decide +kernel
theorem d_S_checkOf_62 : decode prog_1_method_37_code 62 = .ok (.ixor, 1) := by decide +kernel
theorem d_S_checkOf_63 : decode prog_1_method_37_code 63 = .ok (.ireturn, 1) := by decide +kernel
theorem d_S_packInto_0 : decode prog_1_method_38_code 0 = .ok (.aload_n 1, 1) := by decide +kernel
theorem d_S_packInto_1 : decode prog_1_method_38_code 1 = .ok (.iconst 0, 1) := by decide +kernel
theorem d_S_packInto_2 : decode prog_1_method_38_code 2 = .ok (.invokevirtual 64, 3) := by decide +kernel
theorem d_S_packInto_5 : decode prog_1_method_38_code 5 = .ok (.iconst 0, 1) := by decide +kernel
theorem d_S_packInto_6 : decode prog_1_method_38_code 6 = .ok (.istore_n 2, 1) := by decide +kernel
theorem d_S_packInto_7 : decode prog_1_method_38_code 7 = .ok (.iconst 0, 1) := by decide +kernel
theorem d_S_packInto_8 : decode prog_1_method_38_code 8 = .ok (.istore_n 3, 1) := by decide +kernel
theorem d_S_packInto_9 : decode prog_1_method_38_code 9 = .ok (.iload_n 3, 1) := by decide +kernel
theorem d_S_packInto_10 : decode prog_1_method_38_code 10 = .ok (.aload_n 0, 1) := by decide +kernel
theorem d_S_packInto_11 : decode prog_1_method_38_code 11 = .ok (.getfield 60, 3) := by decide +kernel
theorem d_S_packInto_14 : decode prog_1_method_38_code 14 = .ok (.if_icmp .ge 71, 3) := by decide +kernel
theorem d_S_packInto_17 : decode prog_1_method_38_code 17 = .ok (.aload_n 0, 1) := by decide +kernel
theorem d_S_packInto_18 : decode prog_1_method_38_code 18 = .ok (.iload_n 3, 1) := by decide +kernel
theorem d_S_packInto_19 : decode prog_1_method_38_code 19 = .ok (.invokevirtual 67, 3) := by decide +kernel
theorem d_S_packInto_22 : decode prog_1_method_38_code 22 = .ok (.istore 4, 2) := by decide +kernel
theorem d_S_packInto_24 : decode prog_1_method_38_code 24 = .ok (.iload 4, 2) := by decide +kernel
theorem d_S_packInto_26 : decode prog_1_method_38_code 26 = .ok (.aload_n 0, 1) := by decide +kernel
theorem d_S_packInto_27 : decode prog_1_method_38_code 27 = .ok (.iload_n 3, 1) := by decide +kernel
theorem d_S_packInto_28 : decode prog_1_method_38_code 28 = .ok (.iconst 1, 1) := by decide +kernel
theorem d_S_packInto_29 : decode prog_1_method_38_code 29 = .ok (.isub, 1) := by decide +kernel
theorem d_S_packInto_30 : decode prog_1_method_38_code 30 = .ok (.invokevirtual 67, 3) := by decide +kernel
theorem d_S_packInto_33 : decode prog_1_method_38_code 33 = .ok (.if_icmp .ne 9, 3) := by decide +kernel
theorem d_S_packInto_36 : decode prog_1_method_38_code 36 = .ok (.iload_n 2, 1) := by decide +kernel
theorem d_S_packInto_37 : decode prog_1_method_38_code 37 = .ok (.iconst 1, 1) := by decide +kernel
theorem d_S_packInto_38 : decode prog_1_method_38_code 38 = .ok (.iadd, 1) := by decide +kernel
theorem d_S_packInto_39 : decode prog_1_method_38_code 39 = .ok (.goto 4, 3) := by decide +kernel
theorem d_S_packInto_42 : decode prog_1_method_38_code 42 = .ok (.iconst 1, 1) := by decide +kernel
theorem d_S_packInto_43 : decode prog_1_method_38_code 43 = .ok (.istore_n 2, 1) := by decide +kernel
theorem d_S_packInto_44 : decode prog_1_method_38_code 44 = .ok (.aload_n 1, 1) := by decide +kernel
theorem d_S_packInto_45 : decode prog_1_method_38_code 45 = .ok (.iload 4, 2) := by decide +kernel
theorem d_S_packInto_47 : decode prog_1_method_38_code 47 = .ok (.invokevirtual 211, 3) := by decide +kernel
theorem d_S_packInto_50 : decode prog_1_method_38_code 50 = .ok (.iload_n 2, 1) := by decide +kernel
theorem d_S_packInto_51 : decode prog_1_method_38_code 51 = .ok (.iconst 4, 1) := by decide +kernel
theorem d_S_packInto_52 : decode prog_1_method_38_code 52 = .ok (.if_icmp .ne 27, 3) := by decide +kernel
theorem d_S_packInto_55 : decode prog_1_method_38_code 55 = .ok (.aload_n 0, 1) := by decide +kernel
theorem d_S_packInto_56 : decode prog_1_method_38_code 56 = .ok (.iload_n 3, 1) := by decide +kernel
theorem d_S_packInto_57 : decode prog_1_method_38_code 57 = .ok (.iconst 1, 1) := by decide +kernel
theorem d_S_packInto_58 : decode prog_1_method_38_code 58 = .ok (.iadd, 1) := by decide +kernel
theorem d_S_packInto_59 : decode prog_1_method_38_code 59 = .ok (.iload 4, 2) := by decide +kernel
theorem d_S_packInto_61 : decode prog_1_method_38_code 61 = .ok (.invokestatic 215, 3) := by decide +kernel
theorem d_S_packInto_64 : decode prog_1_method_38_code 64 = .ok (.istore 5, 2) := by decide +kernel
theorem d_S_packInto_66 : decode prog_1_method_38_code 66 = .ok (.aload_n 1, 1) := by decide +kernel
theorem d_S_packInto_67 : decode prog_1_method_38_code 67 = .ok (.iload 5, 2) := by decide +kernel
theorem d_S_packInto_69 : decode prog_1_method_38_code 69 = .ok (.invokevirtual 211, 3) := by decide +kernel
theorem d_S_packInto_72 : decode prog_1_method_38_code 72 = .ok (.iload_n 3, 1) := by decide +kernel
theorem d_S_packInto_73 : decode prog_1_method_38_code 73 = .ok (.iload 5, 2) := by decide +kernel
theorem d_S_packInto_75 : decode prog_1_method_38_code 75 = .ok (.iadd, 1) := by decide +kernel
theorem d_S_packInto_76 : decode prog_1_method_38_code 76 = .ok (.istore_n 3, 1) := by decide +kernel
theorem d_S_packInto_77 : decode prog_1_method_38_code 77 = .ok (.iconst 0, 1) := by decide +kernel
theorem d_S_packInto_78 : decode prog_1_method_38_code 78 = .ok (.istore_n 2, 1) := by decide +kernel
theorem d_S_packInto_79 : decode prog_1_method_38_code 79 = .ok (.iinc 3 1, 3) := by decide +kernel
theorem d_S_packInto_82 : decode prog_1_method_38_code 82 = .ok (.goto (-73), 3) := by decide +kernel
theorem d_S_packInto_85 : decode prog_1_method_38_code 85 = .ok (.return_, 1) := by decide +kernel
theorem d_S_countMore_0 : decode prog_1_method_39_code 0 = .ok (.iconst 0, 1) := by decide +kernel
theorem d_S_countMore_1 : decode prog_1_method_39_code 1 = .ok (.istore_n 3, 1) := by decide +kernel
theorem d_S_countMore_2 : decode prog_1_method_39_code 2 = .ok (.iload_n 3, 1) := by decide +kernel
theorem d_S_countMore_3 : decode prog_1_method_39_code 3 = .ok (.sipush 251, 3) := by decide +kernel
theorem d_S_countMore_6 : decode prog_1_method_39_code 6 = .ok (.if_icmp .ge 20, 3) := by decide +kernel
theorem d_S_countMore_9 : decode prog_1_method_39_code 9 = .ok (.aload_n 0, 1) := by decide +kernel
theorem d_S_countMore_10 : decode prog_1_method_39_code 10 = .ok (.iload_n 1, 1) := by decide +kernel
theorem d_S_countMore_11 : decode prog_1_method_39_code 11 = .ok (.iload_n 3, 1) := by decide +kernel
theorem d_S_countMore_12 : decode prog_1_method_39_code 12 = .ok (.iadd, 1) := by decide +kernel
theorem d_S_countMore_13 : decode prog_1_method_39_code 13 = .ok (.invokevirtual 67, 3) := by decide +kernel
theorem d_S_countMore_16 : decode prog_1_method_39_code 16 = .ok (.iload_n 2, 1) := by decide +kernel
theorem d_S_countMore_17 : decode prog_1_method_39_code 17 = .ok (.if_icmp .ne 9, 3) := by decide +kernel
theorem d_S_countMore_20 : decode prog_1_method_39_code 20 = .ok (.iinc 3 1, 3) := by decide +kernel
theorem d_S_countMore_23 : decode prog_1_method_39_code 23 = .ok (.goto (-21), 3) := by decide +kernel
theorem d_S_countMore_26 : decode prog_1_method_39_code 26 = .ok (.iload_n 3, 1) := by decide +kernel
theorem d_S_countMore_27 : decode prog_1_method_39_code 27 = .ok (.ireturn, 1) := by decide +kernel
theorem d_S_unpackInto_0 : decode prog_1_method_40_code 0 = .ok (.aload_n 1, 1) := by decide +kernel
theorem d_S_unpackInto_1 : decode prog_1_method_40_code 1 = .ok (.iconst 0, 1) := by decide +kernel
theorem d_S_unpackInto_2 : decode prog_1_method_40_code 2 = .ok (.invokevirtual 64, 3) := by decide +kernel
theorem d_S_unpackInto_5 : decode prog_1_method_40_code 5 = .ok (.iconst 0, 1) := by decide +kernel
theorem d_S_unpackInto_6 : decode prog_1_method_40_code 6 = .ok (.istore_n 2, 1) := by decide +kernel
theorem d_S_unpackInto_7 : decode prog_1_method_40_code 7 = .ok (.iconst 0, 1) := by decide +kernel
theorem d_S_unpackInto_8 : decode prog_1_method_40_code 8 = .ok (.istore_n 3, 1) := by decide +kernel
theorem d_S_unpackInto_9 : decode prog_1_method_40_code 9 = .ok (.iload_n 3, 1) := by decide +kernel
theorem d_S_unpackInto_10 : decode prog_1_method_40_code 10 = .ok (.aload_n 0, 1) := by decide +kernel
theorem d_S_unpackInto_11 : decode prog_1_method_40_code 11 = .ok (.getfield 60, 3) := by decide +kernel
theorem d_S_unpackInto_14 : decode prog_1_method_40_code 14 = .ok (.if_icmp .ge 105, 3) := by decide +kernel
theorem d_S_unpackInto_17 : decode prog_1_method_40_code 17 = .ok (.aload_n 0, 1) := by decide +kernel
theorem d_S_unpackInto_18 : decode prog_1_method_40_code 18 = .ok (.iload_n 3, 1) := by decide +kernel
theorem d_S_unpackInto_19 : decode prog_1_method_40_code 19 = .ok (.invokevirtual 67, 3) := by decide +kernel
theorem d_S_unpackInto_22 : decode prog_1_method_40_code 22 = .ok (.istore 4, 2) := by decide +kernel
theorem d_S_unpackInto_24 : decode prog_1_method_40_code 24 = .ok (.iload_n 2, 1) := by decide +kernel
theorem d_S_unpackInto_25 : decode prog_1_method_40_code 25 = .ok (.iconst 4, 1) := by decide +kernel
theorem d_S_unpackInto_26 : decode prog_1_method_40_code 26 = .ok (.if_icmp .ne 7, 3) := by decide +kernel
theorem d_S_unpackInto_29 : decode prog_1_method_40_code 29 = .ok (.iconst 1, 1) := by decide +kernel
theorem d_S_unpackInto_30 : decode prog_1_method_40_code 30 = .ok (.goto 4, 3) := by decide +kernel
theorem d_S_unpackInto_33 : decode prog_1_method_40_code 33 = .ok (.iconst 0, 1) := by decide +kernel
theorem d_S_unpackInto_34 : decode prog_1_method_40_code 34 = .ok (.istore 5, 2) := by decide +kernel
theorem d_S_unpackInto_36 : decode prog_1_method_40_code 36 = .ok (.iload 5, 2) := by decide +kernel
theorem d_S_unpackInto_38 : decode prog_1_method_40_code 38 = .ok (.ifCond .eq 8, 3) := by decide +kernel
theorem d_S_unpackInto_41 : decode prog_1_method_40_code 41 = .ok (.iload 4, 2) := by decide +kernel
theorem d_S_unpackInto_43 : decode prog_1_method_40_code 43 = .ok (.goto 4, 3) := by decide +kernel
theorem d_S_unpackInto_46 : decode prog_1_method_40_code 46 = .ok (.iconst 1, 1) := by decide +kernel
theorem d_S_unpackInto_47 : decode prog_1_method_40_code 47 = .ok (.istore 6, 2) := by decide +kernel
theorem d_S_unpackInto_49 : decode prog_1_method_40_code 49 = .ok (.aload_n 1, 1) := by decide +kernel
theorem d_S_unpackInto_50 : decode prog_1_method_40_code 50 = .ok (.iload 6, 2) := by decide +kernel
theorem d_S_unpackInto_52 : decode prog_1_method_40_code 52 = .ok (.invokevirtual 53, 3) := by decide +kernel
theorem d_S_unpackInto_55 : decode prog_1_method_40_code 55 = .ok (.ifCond .ne 5, 3) := by decide +kernel
theorem d_S_unpackInto_58 : decode prog_1_method_40_code 58 = .ok (.iconst 0, 1) := by decide +kernel
theorem d_S_unpackInto_59 : decode prog_1_method_40_code 59 = .ok (.ireturn, 1) := by decide +kernel
theorem d_S_unpackInto_60 : decode prog_1_method_40_code 60 = .ok (.aload_n 1, 1) := by decide +kernel
theorem d_S_unpackInto_61 : decode prog_1_method_40_code 61 = .ok (.iload 6, 2) := by decide +kernel
theorem d_S_unpackInto_63 : decode prog_1_method_40_code 63 = .ok (.iload 5, 2) := by decide +kernel
theorem d_S_unpackInto_65 : decode prog_1_method_40_code 65 = .ok (.ifCond .eq 13, 3) := by decide +kernel
theorem d_S_unpackInto_68 : decode prog_1_method_40_code 68 = .ok (.aload_n 0, 1) := by decide +kernel
theorem d_S_unpackInto_69 : decode prog_1_method_40_code 69 = .ok (.iload_n 3, 1) := by decide +kernel
theorem d_S_unpackInto_70 : decode prog_1_method_40_code 70 = .ok (.iconst 1, 1) := by decide +kernel
theorem d_S_unpackInto_71 : decode prog_1_method_40_code 71 = .ok (.isub, 1) := by decide +kernel
theorem d_S_unpackInto_72 : decode prog_1_method_40_code 72 = .ok (.invokevirtual 67, 3) := by decide +kernel
theorem d_S_unpackInto_75 : decode prog_1_method_40_code 75 = .ok (.goto 5, 3) := by decide +kernel
theorem d_S_unpackInto_78 : decode prog_1_method_40_code 78 = .ok (.iload 4, 2) := by decide +kernel
theorem d_S_unpackInto_80 : decode prog_1_method_40_code 80 = .ok (.invokevirtual 56, 3) := by decide +kernel
theorem d_S_unpackInto_83 : decode prog_1_method_40_code 83 = .ok (.iload 5, 2) := by decide +kernel
theorem d_S_unpackInto_85 : decode prog_1_method_40_code 85 = .ok (.ifCond .eq 8, 3) := by decide +kernel
theorem d_S_unpackInto_88 : decode prog_1_method_40_code 88 = .ok (.iconst 0, 1) := by decide +kernel
theorem d_S_unpackInto_89 : decode prog_1_method_40_code 89 = .ok (.istore_n 2, 1) := by decide +kernel
theorem d_S_unpackInto_90 : decode prog_1_method_40_code 90 = .ok (.goto 23, 3) := by decide +kernel
theorem d_S_unpackInto_93 : decode prog_1_method_40_code 93 = .ok (.iload 4, 2) := by decide +kernel
theorem d_S_unpackInto_95 : decode prog_1_method_40_code 95 = .ok (.aload_n 0, 1) := by decide +kernel
theorem d_S_unpackInto_96 : decode prog_1_method_40_code 96 = .ok (.iload_n 3, 1) := by decide +kernel
theorem d_S_unpackInto_97 : decode prog_1_method_40_code 97 = .ok (.iconst 1, 1) := by decide +kernel
theorem d_S_unpackInto_98 : decode prog_1_method_40_code 98 = .ok (.isub, 1) := by decide +kernel
theorem d_S_unpackInto_99 : decode prog_1_method_40_code 99 = .ok (.invokevirtual 67, 3) := by decide +kernel
theorem d_S_unpackInto_102 : decode prog_1_method_40_code 102 = .ok (.if_icmp .ne 9, 3) := by decide +kernel
theorem d_S_unpackInto_105 : decode prog_1_method_40_code 105 = .ok (.iload_n 2, 1) := by decide +kernel
theorem d_S_unpackInto_106 : decode prog_1_method_40_code 106 = .ok (.iconst 1, 1) := by decide +kernel
theorem d_S_unpackInto_107 : decode prog_1_method_40_code 107 = .ok (.iadd, 1) := by decide +kernel
theorem d_S_unpackInto_108 : decode prog_1_method_40_code 108 = .ok (.goto 4, 3) := by decide +kernel
theorem d_S_unpackInto_111 : decode prog_1_method_40_code 111 = .ok (.iconst 1, 1) := by decide +kernel
theorem d_S_unpackInto_112 : decode prog_1_method_40_code 112 = .ok (.istore_n 2, 1) := by decide +kernel
theorem d_S_unpackInto_113 : decode prog_1_method_40_code 113 = .ok (.iinc 3 1, 3) := by decide +kernel
theorem d_S_unpackInto_116 : decode prog_1_method_40_code 116 = .ok (.goto (-107), 3) := by decide +kernel
theorem d_S_unpackInto_119 : decode prog_1_method_40_code 119 = .ok (.iconst 1, 1) := by decide +kernel
theorem d_S_unpackInto_120 : decode prog_1_method_40_code 120 = .ok (.ireturn, 1) := by decide +kernel
theorem d_Mo_init_0 : decode prog_13_method_1_code 0 = .ok (.aload_n 0, 1) := by decide +kernel
theorem d_Mo_init_1 : decode prog_13_method_1_code 1 = .ok (.invokespecial 1, 3) := by decide +kernel
theorem d_Mo_init_4 : decode prog_13_method_1_code 4 = .ok (.aload_n 0, 1) := by decide +kernel
theorem d_Mo_init_5 : decode prog_13_method_1_code 5 = .ok (.sipush 600, 3) := by decide +kernel
theorem d_Mo_init_8 : decode prog_13_method_1_code 8 = .ok (.newarray .int, 2) := by decide +kernel
theorem d_Mo_init_10 : decode prog_13_method_1_code 10 = .ok (.putfield 7, 3) := by decide +kernel
theorem d_Mo_init_13 : decode prog_13_method_1_code 13 = .ok (.aload_n 0, 1) := by decide +kernel
theorem d_Mo_init_14 : decode prog_13_method_1_code 14 = .ok (.sipush 900, 3) := by decide +kernel
theorem d_Mo_init_17 : decode prog_13_method_1_code 17 = .ok (.newarray .int, 2) := by decide +kernel
theorem d_Mo_init_19 : decode prog_13_method_1_code 19 = .ok (.putfield 13, 3) := by decide +kernel
theorem d_Mo_init_22 : decode prog_13_method_1_code 22 = .ok (.aload_n 0, 1) := by decide +kernel
theorem d_Mo_init_23 : decode prog_13_method_1_code 23 = .ok (.sipush 900, 3) := by decide +kernel
theorem d_Mo_init_26 : decode prog_13_method_1_code 26 = .ok (.newarray .int, 2) := by decide +kernel
theorem d_Mo_init_28 : decode prog_13_method_1_code 28 = .ok (.putfield 16, 3) := by decide +kernel
theorem d_Mo_init_31 : decode prog_13_method_1_code 31 = .ok (.aload_n 0, 1) := by decide +kernel
theorem d_Mo_init_32 : decode prog_13_method_1_code 32 = .ok (.sipush 900, 3) := by decide +kernel
theorem d_Mo_init_35 : decode prog_13_method_1_code 35 = .ok (.newarray .int, 2) := by decide +kernel
theorem d_Mo_init_37 : decode prog_13_method_1_code 37 = .ok (.putfield 19, 3) := by decide +kernel
theorem d_Mo_init_40 : decode prog_13_method_1_code 40 = .ok (.aload_n 0, 1) := by decide +kernel
theorem d_Mo_init_41 : decode prog_13_method_1_code 41 = .ok (.sipush 600, 3) := by decide +kernel
theorem d_Mo_init_44 : decode prog_13_method_1_code 44 = .ok (.newarray .int, 2) := by decide +kernel
theorem d_Mo_init_46 : decode prog_13_method_1_code 46 = .ok (.putfield 22, 3) := by decide +kernel
theorem d_Mo_init_49 : decode prog_13_method_1_code 49 = .ok (.aload_n 0, 1) := by decide +kernel
theorem d_Mo_init_50 : decode prog_13_method_1_code 50 = .ok (.sipush 900, 3) := by decide +kernel
theorem d_Mo_init_53 : decode prog_13_method_1_code 53 = .ok (.newarray .int, 2) := by decide +kernel
theorem d_Mo_init_55 : decode prog_13_method_1_code 55 = .ok (.putfield 25, 3) := by decide +kernel
theorem d_Mo_init_58 : decode prog_13_method_1_code 58 = .ok (.aload_n 0, 1) := by decide +kernel
theorem d_Mo_init_59 : decode prog_13_method_1_code 59 = .ok (.sipush 900, 3) := by decide +kernel
theorem d_Mo_init_62 : decode prog_13_method_1_code 62 = .ok (.newarray .int, 2) := by decide +kernel
theorem d_Mo_init_64 : decode prog_13_method_1_code 64 = .ok (.putfield 28, 3) := by decide +kernel
theorem d_Mo_init_67 : decode prog_13_method_1_code 67 = .ok (.aload_n 0, 1) := by decide +kernel
theorem d_Mo_init_68 : decode prog_13_method_1_code 68 = .ok (.sipush 256, 3) := by decide +kernel
theorem d_Mo_init_71 : decode prog_13_method_1_code 71 = .ok (.newarray .int, 2) := by decide +kernel
theorem d_Mo_init_73 : decode prog_13_method_1_code 73 = .ok (.putfield 31, 3) := by decide +kernel
theorem d_Mo_init_76 : decode prog_13_method_1_code 76 = .ok (.aload_n 0, 1) := by decide +kernel
theorem d_Mo_init_77 : decode prog_13_method_1_code 77 = .ok (.sipush 902, 3) := by decide +kernel
theorem d_Mo_init_80 : decode prog_13_method_1_code 80 = .ok (.newarray .int, 2) := by decide +kernel
theorem d_Mo_init_82 : decode prog_13_method_1_code 82 = .ok (.putfield 34, 3) := by decide +kernel
theorem d_Mo_init_85 : decode prog_13_method_1_code 85 = .ok (.aload_n 0, 1) := by decide +kernel
theorem d_Mo_init_86 : decode prog_13_method_1_code 86 = .ok (.sipush 258, 3) := by decide +kernel
theorem d_Mo_init_89 : decode prog_13_method_1_code 89 = .ok (.newarray .int, 2) := by decide +kernel
theorem d_Mo_init_91 : decode prog_13_method_1_code 91 = .ok (.putfield 37, 3) := by decide +kernel
theorem d_Mo_init_94 : decode prog_13_method_1_code 94 = .ok (.aload_n 0, 1) := by decide +kernel
theorem d_Mo_init_95 : decode prog_13_method_1_code 95 = .ok (.sipush 258, 3) := by decide +kernel
theorem d_Mo_init_98 : decode prog_13_method_1_code 98 = .ok (.newarray .int, 2) := by decide +kernel
theorem d_Mo_init_100 : decode prog_13_method_1_code 100 = .ok (.putfield 40, 3) := by decide +kernel
theorem d_Mo_init_103 : decode prog_13_method_1_code 103 = .ok (.aload_n 0, 1) := by decide +kernel
theorem d_Mo_init_104 : decode prog_13_method_1_code 104 = .ok (.sipush 515, 3) := by decide +kernel
theorem d_Mo_init_107 : decode prog_13_method_1_code 107 = .ok (.newarray .long, 2) := by decide +kernel
theorem d_Mo_init_109 : decode prog_13_method_1_code 109 = .ok (.putfield 43, 3) := by decide +kernel
theorem d_Mo_init_112 : decode prog_13_method_1_code 112 = .ok (.aload_n 0, 1) := by decide +kernel
theorem d_Mo_init_113 : decode prog_13_method_1_code 113 = .ok (.sipush 515, 3) := by decide +kernel
theorem d_Mo_init_116 : decode prog_13_method_1_code 116 = .ok (.newarray .int, 2) := by decide +kernel
theorem d_Mo_init_118 : decode prog_13_method_1_code 118 = .ok (.putfield 47, 3) := by decide +kernel
theorem d_Mo_init_121 : decode prog_13_method_1_code 121 = .ok (.aload_n 0, 1) := by decide +kernel
theorem d_Mo_init_122 : decode prog_13_method_1_code 122 = .ok (.sipush 515, 3) := by decide +kernel
theorem d_Mo_init_125 : decode prog_13_method_1_code 125 = .ok (.newarray .int, 2) := by decide +kernel
theorem d_Mo_init_127 : decode prog_13_method_1_code 127 = .ok (.putfield 50, 3) := by decide +kernel
theorem d_Mo_init_130 : decode prog_13_method_1_code 130 = .ok (.aload_n 0, 1) := by decide +kernel
theorem d_Mo_init_131 : decode prog_13_method_1_code 131 = .ok (.sipush 258, 3) := by decide +kernel
theorem d_Mo_init_134 : decode prog_13_method_1_code 134 = .ok (.newarray .long, 2) := by decide +kernel
theorem d_Mo_init_136 : decode prog_13_method_1_code 136 = .ok (.putfield 53, 3) := by decide +kernel
theorem d_Mo_init_139 : decode prog_13_method_1_code 139 = .ok (.aload_n 0, 1) := by decide +kernel
theorem d_Mo_init_140 : decode prog_13_method_1_code 140 = .ok (.sipush 3000, 3) := by decide +kernel
theorem d_Mo_init_143 : decode prog_13_method_1_code 143 = .ok (.newarray .byte, 2) := by decide +kernel
theorem d_Mo_init_145 : decode prog_13_method_1_code 145 = .ok (.putfield 56, 3) := by decide +kernel
theorem d_Mo_init_148 : decode prog_13_method_1_code 148 = .ok (.aload_n 0, 1) := by decide +kernel
theorem d_Mo_init_149 : decode prog_13_method_1_code 149 = .ok (.sipush 3000, 3) := by decide +kernel
theorem d_Mo_init_152 : decode prog_13_method_1_code 152 = .ok (.newarray .byte, 2) := by decide +kernel
theorem d_Mo_init_154 : decode prog_13_method_1_code 154 = .ok (.putfield 60, 3) := by decide +kernel
theorem d_Mo_init_157 : decode prog_13_method_1_code 157 = .ok (.aload_n 0, 1) := by decide +kernel
theorem d_Mo_init_158 : decode prog_13_method_1_code 158 = .ok (.bipush (-2), 2) := by decide +kernel
theorem d_Mo_init_160 : decode prog_13_method_1_code 160 = .ok (.putfield 63, 3) := by decide +kernel
theorem d_Mo_init_163 : decode prog_13_method_1_code 163 = .ok (.aload_n 0, 1) := by decide +kernel
theorem d_Mo_init_164 : decode prog_13_method_1_code 164 = .ok (.sipush 600, 3) := by decide +kernel
theorem d_Mo_init_167 : decode prog_13_method_1_code 167 = .ok (.newarray .int, 2) := by decide +kernel
theorem d_Mo_init_169 : decode prog_13_method_1_code 169 = .ok (.putfield 67, 3) := by decide +kernel
theorem d_Mo_init_172 : decode prog_13_method_1_code 172 = .ok (.return_, 1) := by decide +kernel
theorem d_Mo_isIn_0 : decode prog_13_method_2_code 0 = .ok (.lload_n 0, 1) := by decide +kernel
theorem d_Mo_isIn_1 : decode prog_13_method_2_code 1 = .ok (.lload_n 2, 1) := by decide +kernel
theorem d_Mo_isIn_2 : decode prog_13_method_2_code 2 = .ok (.lcmp, 1) := by decide +kernel
theorem d_Mo_isIn_3 : decode prog_13_method_2_code 3 = .ok (.ifCond .lt 14, 3) := by decide +kernel
theorem d_Mo_isIn_6 : decode prog_13_method_2_code 6 = .ok (.lload_n 0, 1) := by decide +kernel
theorem d_Mo_isIn_7 : decode prog_13_method_2_code 7 = .ok (.lload 4, 2) := by decide +kernel
theorem d_Mo_isIn_9 : decode prog_13_method_2_code 9 = .ok (.lcmp, 1) := by decide +kernel
theorem d_Mo_isIn_10 : decode prog_13_method_2_code 10 = .ok (.ifCond .gt 7, 3) := by decide +kernel
theorem d_Mo_isIn_13 : decode prog_13_method_2_code 13 = .ok (.iconst 1, 1) := by decide +kernel
theorem d_Mo_isIn_14 : decode prog_13_method_2_code 14 = .ok (.goto 4, 3) := by decide +kernel
theorem d_Mo_isIn_17 : decode prog_13_method_2_code 17 = .ok (.iconst 0, 1) := by decide +kernel
theorem d_Mo_isIn_18 : decode prog_13_method_2_code 18 = .ok (.ireturn, 1) := by decide +kernel
theorem d_Mo_feed_0 : decode prog_13_method_3_code 0 = .ok (.iload_n 3, 1) := by decide +kernel
theorem d_Mo_feed_1 : decode prog_13_method_3_code 1 = .ok (.i2l, 1) := by decide +kernel
theorem d_Mo_feed_2 : decode prog_13_method_3_code 2 = .ok (.lconst 1, 1) := by decide +kernel
theorem d_Mo_feed_3 : decode prog_13_method_3_code 3 = .ok (.ldc2_w 70, 3) := by decide +kernel
theorem d_Mo_feed_6 : decode prog_13_method_3_code 6 = .ok (.invokestatic 72, 3) := by decide +kernel
theorem d_Mo_feed_9 : decode prog_13_method_3_code 9 = .ok (.ifCond .ne 5, 3) := by decide +kernel
theorem d_Mo_feed_12 : decode prog_13_method_3_code 12 = .ok (.iconst (-1), 1) := by decide +kernel
theorem d_Mo_feed_13 : decode prog_13_method_3_code 13 = .ok (.ireturn, 1) := by decide +kernel
theorem d_Mo_feed_14 : decode prog_13_method_3_code 14 = .ok (.aload_n 0, 1) := by decide +kernel
theorem d_Mo_feed_15 : decode prog_13_method_3_code 15 = .ok (.getfield 76, 3) := by decide +kernel
theorem d_Mo_feed_18 : decode prog_13_method_3_code 18 = .ok (.iload_n 3, 1) := by decide +kernel
theorem d_Mo_feed_19 : decode prog_13_method_3_code 19 = .ok (.iadd, 1) := by decide +kernel
theorem d_Mo_feed_20 : decode prog_13_method_3_code 20 = .ok (.sipush 600, 3) := by decide +kernel
theorem d_Mo_feed_23 : decode prog_13_method_3_code 23 = .ok (.if_icmp .le 6, 3) := by decide +kernel
theorem d_Mo_feed_26 : decode prog_13_method_3_code 26 = .ok (.bipush (-3), 2) := by decide +kernel
theorem d_Mo_feed_28 : decode prog_13_method_3_code 28 = .ok (.ireturn, 1) := by decide +kernel
theorem d_Mo_feed_29 : decode prog_13_method_3_code 29 = .ok (.iconst 0, 1) := by decide +kernel
theorem d_Mo_feed_30 : decode prog_13_method_3_code 30 = .ok (.istore 4, 2) := by decide +kernel
theorem d_Mo_feed_32 : decode prog_13_method_3_code 32 = .ok (.iload 4, 2) := by decide +kernel
theorem d_Mo_feed_34 : decode prog_13_method_3_code 34 = .ok (.iload_n 3, 1) := by decide +kernel
theorem d_Mo_feed_35 : decode prog_13_method_3_code 35 = .ok (.if_icmp .ge 37, 3) := by decide +kernel
theorem d_Mo_feed_38 : decode prog_13_method_3_code 38 = .ok (.aload_n 0, 1) := by decide +kernel
theorem d_Mo_feed_39 : decode prog_13_method_3_code 39 = .ok (.getfield 7, 3) := by decide +kernel
theorem d_Mo_feed_42 : decode prog_13_method_3_code 42 = .ok (.aload_n 0, 1) := by decide +kernel
theorem d_Mo_feed_43 : decode prog_13_method_3_code 43 = .ok (.dup, 1) := by decide +kernel
theorem d_Mo_feed_44 : decode prog_13_method_3_code 44 = .ok (.getfield 76, 3) := by decide +kernel
theorem d_Mo_feed_47 : decode prog_13_method_3_code 47 = .ok (.dup_x1, 1) := by decide +kernel
theorem d_Mo_feed_48 : decode prog_13_method_3_code 48 = .ok (.iconst 1, 1) := by decide +kernel
theorem d_Mo_feed_49 : decode prog_13_method_3_code 49 = .ok (.iadd, 1) := by decide +kernel
theorem d_Mo_feed_50 : decode prog_13_method_3_code 50 = .ok (.putfield 76, 3) := by decide +kernel
theorem d_Mo_feed_53 : decode prog_13_method_3_code 53 = .ok (.lload_n 1, 1) := by decide +kernel
theorem d_Mo_feed_54 : decode prog_13_method_3_code 54 = .ok (.bipush 8, 2) := by decide +kernel
theorem d_Mo_feed_56 : decode prog_13_method_3_code 56 = .ok (.iload 4, 2) := by decide +kernel
theorem d_Mo_feed_58 : decode prog_13_method_3_code 58 = .ok (.imul, 1) := by decide +kernel
theorem d_Mo_feed_59 : decode prog_13_method_3_code 59 = .ok (.lushr, 1) := by decide +kernel
theorem d_Mo_feed_60 : decode prog_13_method_3_code 60 = .ok (.ldc2_w 79, 3) := by decide +kernel
theorem d_Mo_feed_63 : decode prog_13_method_3_code 63 = .ok (.land, 1) := by decide +kernel
theorem d_Mo_feed_64 : decode prog_13_method_3_code 64 = .ok (.l2i, 1) := by decide +kernel
theorem d_Mo_feed_65 : decode prog_13_method_3_code 65 = .ok (.iastore, 1) := by decide +kernel
theorem d_Mo_feed_66 : decode prog_13_method_3_code 66 = .ok (.iinc 4 1, 3) := by decide +kernel
theorem d_Mo_feed_69 : decode prog_13_method_3_code 69 = .ok (.goto (-37), 3) := by decide +kernel
theorem d_Mo_feed_72 : decode prog_13_method_3_code 72 = .ok (.aload_n 0, 1) := by decide +kernel
theorem d_Mo_feed_73 : decode prog_13_method_3_code 73 = .ok (.iconst 0, 1) := by decide +kernel
theorem d_Mo_feed_74 : decode prog_13_method_3_code 74 = .ok (.putfield 81, 3) := by decide +kernel
theorem d_Mo_feed_77 : decode prog_13_method_3_code 77 = .ok (.aload_n 0, 1) := by decide +kernel
theorem d_Mo_feed_78 : decode prog_13_method_3_code 78 = .ok (.getfield 76, 3) := by decide +kernel
theorem d_Mo_feed_81 : decode prog_13_method_3_code 81 = .ok (.ireturn, 1) := by decide +kernel
theorem d_Mo_fill_0 : decode prog_13_method_4_code 0 = .ok (.iload_n 1, 1) := by decide +kernel
theorem d_Mo_fill_1 : decode prog_13_method_4_code 1 = .ok (.i2l, 1) := by decide +kernel
theorem d_Mo_fill_2 : decode prog_13_method_4_code 2 = .ok (.lconst 1, 1) := by decide +kernel
theorem d_Mo_fill_3 : decode prog_13_method_4_code 3 = .ok (.ldc2_w 85, 3) := by decide +kernel
theorem d_Mo_fill_6 : decode prog_13_method_4_code 6 = .ok (.invokestatic 72, 3) := by decide +kernel
theorem d_Mo_fill_9 : decode prog_13_method_4_code 9 = .ok (.ifCond .eq 15, 3) := by decide +kernel
theorem d_Mo_fill_12 : decode prog_13_method_4_code 12 = .ok (.iload_n 2, 1) := by decide +kernel
theorem d_Mo_fill_13 : decode prog_13_method_4_code 13 = .ok (.i2l, 1) := by decide +kernel
theorem d_Mo_fill_14 : decode prog_13_method_4_code 14 = .ok (.lconst 0, 1) := by decide +kernel
theorem d_Mo_fill_15 : decode prog_13_method_4_code 15 = .ok (.ldc2_w 79, 3) := by decide +kernel
theorem d_Mo_fill_18 : decode prog_13_method_4_code 18 = .ok (.invokestatic 72, 3) := by decide +kernel
theorem d_Mo_fill_21 : decode prog_13_method_4_code 21 = .ok (.ifCond .ne 5, 3) := by decide +kernel
theorem d_Mo_fill_24 : decode prog_13_method_4_code 24 = .ok (.iconst (-1), 1) := by decide +kernel
theorem d_Mo_fill_25 : decode prog_13_method_4_code 25 = .ok (.ireturn, 1) := by decide +kernel
theorem d_Mo_fill_26 : decode prog_13_method_4_code 26 = .ok (.aload_n 0, 1) := by decide +kernel
theorem d_Mo_fill_27 : decode prog_13_method_4_code 27 = .ok (.getfield 76, 3) := by decide +kernel
theorem d_Mo_fill_30 : decode prog_13_method_4_code 30 = .ok (.iload_n 1, 1) := by decide +kernel
theorem d_Mo_fill_31 : decode prog_13_method_4_code 31 = .ok (.iadd, 1) := by decide +kernel
theorem d_Mo_fill_32 : decode prog_13_method_4_code 32 = .ok (.sipush 600, 3) := by decide +kernel
theorem d_Mo_fill_35 : decode prog_13_method_4_code 35 = .ok (.if_icmp .le 6, 3) := by decide +kernel
theorem d_Mo_fill_38 : decode prog_13_method_4_code 38 = .ok (.bipush (-3), 2) := by decide +kernel
theorem d_Mo_fill_40 : decode prog_13_method_4_code 40 = .ok (.ireturn, 1) := by decide +kernel
theorem d_Mo_fill_41 : decode prog_13_method_4_code 41 = .ok (.iconst 0, 1) := by decide +kernel
theorem d_Mo_fill_42 : decode prog_13_method_4_code 42 = .ok (.istore_n 3, 1) := by decide +kernel
theorem d_Mo_fill_43 : decode prog_13_method_4_code 43 = .ok (.iload_n 3, 1) := by decide +kernel
theorem d_Mo_fill_44 : decode prog_13_method_4_code 44 = .ok (.iload_n 1, 1) := by decide +kernel
theorem d_Mo_fill_45 : decode prog_13_method_4_code 45 = .ok (.if_icmp .ge 26, 3) := by decide +kernel
theorem d_Mo_fill_48 : decode prog_13_method_4_code 48 = .ok (.aload_n 0, 1) := by decide +kernel
theorem d_Mo_fill_49 : decode prog_13_method_4_code 49 = .ok (.getfield 7, 3) := by decide +kernel
theorem d_Mo_fill_52 : decode prog_13_method_4_code 52 = .ok (.aload_n 0, 1) := by decide +kernel
theorem d_Mo_fill_53 : decode prog_13_method_4_code 53 = .ok (.dup, 1) := by decide +kernel
theorem d_Mo_fill_54 : decode prog_13_method_4_code 54 = .ok (.getfield 76, 3) := by decide +kernel
theorem d_Mo_fill_57 : decode prog_13_method_4_code 57 = .ok (.dup_x1, 1) := by decide +kernel
theorem d_Mo_fill_58 : decode prog_13_method_4_code 58 = .ok (.iconst 1, 1) := by decide +kernel
theorem d_Mo_fill_59 : decode prog_13_method_4_code 59 = .ok (.iadd, 1) := by decide +kernel
theorem d_Mo_fill_60 : decode prog_13_method_4_code 60 = .ok (.putfield 76, 3) := by decide +kernel
theorem d_Mo_fill_63 : decode prog_13_method_4_code 63 = .ok (.iload_n 2, 1) := by decide +kernel
theorem d_Mo_fill_64 : decode prog_13_method_4_code 64 = .ok (.iastore, 1) := by decide +kernel
theorem d_Mo_fill_65 : decode prog_13_method_4_code 65 = .ok (.iinc 3 1, 3) := by decide +kernel
theorem d_Mo_fill_68 : decode prog_13_method_4_code 68 = .ok (.goto (-25), 3) := by decide +kernel
theorem d_Mo_fill_71 : decode prog_13_method_4_code 71 = .ok (.aload_n 0, 1) := by decide +kernel
theorem d_Mo_fill_72 : decode prog_13_method_4_code 72 = .ok (.iconst 0, 1) := by decide +kernel
theorem d_Mo_fill_73 : decode prog_13_method_4_code 73 = .ok (.putfield 81, 3) := by decide +kernel
theorem d_Mo_fill_76 : decode prog_13_method_4_code 76 = .ok (.aload_n 0, 1) := by decide +kernel
theorem d_Mo_fill_77 : decode prog_13_method_4_code 77 = .ok (.getfield 76, 3) := by decide +kernel
theorem d_Mo_fill_80 : decode prog_13_method_4_code 80 = .ok (.ireturn, 1) := by decide +kernel
theorem d_Mo_clear_0 : decode prog_13_method_5_code 0 = .ok (.aload_n 0, 1) := by decide +kernel
theorem d_Mo_clear_1 : decode prog_13_method_5_code 1 = .ok (.getfield 76, 3) := by decide +kernel
theorem d_Mo_clear_4 : decode prog_13_method_5_code 4 = .ok (.istore_n 1, 1) := by decide +kernel
theorem d_Mo_clear_5 : decode prog_13_method_5_code 5 = .ok (.aload_n 0, 1) := by decide +kernel
theorem d_Mo_clear_6 : decode prog_13_method_5_code 6 = .ok (.iconst 0, 1) := by decide +kernel
theorem d_Mo_clear_7 : decode prog_13_method_5_code 7 = .ok (.putfield 76, 3) := by decide +kernel
theorem d_Mo_clear_10 : decode prog_13_method_5_code 10 = .ok (.aload_n 0, 1) := by decide +kernel
theorem d_Mo_clear_11 : decode prog_13_method_5_code 11 = .ok (.iconst 0, 1) := by decide +kernel
theorem d_Mo_clear_12 : decode prog_13_method_5_code 12 = .ok (.putfield 81, 3) := by decide +kernel
theorem d_Mo_clear_15 : decode prog_13_method_5_code 15 = .ok (.iload_n 1, 1) := by decide +kernel
theorem d_Mo_clear_16 : decode prog_13_method_5_code 16 = .ok (.ireturn, 1) := by decide +kernel
theorem d_Mo_octet_0 : decode prog_13_method_6_code 0 = .ok (.iload_n 1, 1) := by decide +kernel
theorem d_Mo_octet_1 : decode prog_13_method_6_code 1 = .ok (.i2l, 1) := by decide +kernel
theorem d_Mo_octet_2 : decode prog_13_method_6_code 2 = .ok (.lconst 0, 1) := by decide +kernel
theorem d_Mo_octet_3 : decode prog_13_method_6_code 3 = .ok (.aload_n 0, 1) := by decide +kernel
theorem d_Mo_octet_4 : decode prog_13_method_6_code 4 = .ok (.getfield 76, 3) := by decide +kernel
theorem d_Mo_octet_7 : decode prog_13_method_6_code 7 = .ok (.iconst 1, 1) := by decide +kernel
theorem d_Mo_octet_8 : decode prog_13_method_6_code 8 = .ok (.isub, 1) := by decide +kernel
theorem d_Mo_octet_9 : decode prog_13_method_6_code 9 = .ok (.i2l, 1) := by decide +kernel
theorem d_Mo_octet_10 : decode prog_13_method_6_code 10 = .ok (.invokestatic 72, 3) := by decide +kernel
theorem d_Mo_octet_13 : decode prog_13_method_6_code 13 = .ok (.ifCond .eq 12, 3) := by decide +kernel
theorem d_Mo_octet_16 : decode prog_13_method_6_code 16 = .ok (.aload_n 0, 1) := by decide +kernel
theorem d_Mo_octet_17 : decode prog_13_method_6_code 17 = .ok (.getfield 7, 3) := by decide +kernel
theorem d_Mo_octet_20 : decode prog_13_method_6_code 20 = .ok (.iload_n 1, 1) := by decide +kernel
theorem d_Mo_octet_21 : decode prog_13_method_6_code 21 = .ok (.iaload, 1) := by decide +kernel
theorem d_Mo_octet_22 : decode prog_13_method_6_code 22 = .ok (.goto 5, 3) := by decide +kernel
theorem d_Mo_octet_25 : decode prog_13_method_6_code 25 = .ok (.bipush (-2), 2) := by decide +kernel
theorem d_Mo_octet_27 : decode prog_13_method_6_code 27 = .ok (.ireturn, 1) := by decide +kernel
theorem d_Mo_takeBlock_0 : decode prog_13_method_7_code 0 = .ok (.aload_n 0, 1) := by decide +kernel
theorem d_Mo_takeBlock_1 : decode prog_13_method_7_code 1 = .ok (.aload_n 0, 1) := by decide +kernel
theorem d_Mo_takeBlock_2 : decode prog_13_method_7_code 2 = .ok (.getfield 76, 3) := by decide +kernel
theorem d_Mo_takeBlock_5 : decode prog_13_method_7_code 5 = .ok (.putfield 87, 3) := by decide +kernel
theorem d_Mo_takeBlock_8 : decode prog_13_method_7_code 8 = .ok (.iconst 0, 1) := by decide +kernel
theorem d_Mo_takeBlock_9 : decode prog_13_method_7_code 9 = .ok (.istore_n 1, 1) := by decide +kernel
theorem d_Mo_takeBlock_10 : decode prog_13_method_7_code 10 = .ok (.iload_n 1, 1) := by decide +kernel
theorem d_Mo_takeBlock_11 : decode prog_13_method_7_code 11 = .ok (.aload_n 0, 1) := by decide +kernel
theorem d_Mo_takeBlock_12 : decode prog_13_method_7_code 12 = .ok (.getfield 76, 3) := by decide +kernel
theorem d_Mo_takeBlock_15 : decode prog_13_method_7_code 15 = .ok (.if_icmp .ge 21, 3) := by decide +kernel
theorem d_Mo_takeBlock_18 : decode prog_13_method_7_code 18 = .ok (.aload_n 0, 1) := by decide +kernel
theorem d_Mo_takeBlock_19 : decode prog_13_method_7_code 19 = .ok (.getfield 13, 3) := by decide +kernel
theorem d_Mo_takeBlock_22 : decode prog_13_method_7_code 22 = .ok (.iload_n 1, 1) := by decide +kernel
theorem d_Mo_takeBlock_23 : decode prog_13_method_7_code 23 = .ok (.aload_n 0, 1) := by decide +kernel
theorem d_Mo_takeBlock_24 : decode prog_13_method_7_code 24 = .ok (.getfield 7, 3) := by decide +kernel
theorem d_Mo_takeBlock_27 : decode prog_13_method_7_code 27 = .ok (.iload_n 1, 1) := by decide +kernel
theorem d_Mo_takeBlock_28 : decode prog_13_method_7_code 28 = .ok (.iaload, 1) := by decide +kernel
theorem d_Mo_takeBlock_29 : decode prog_13_method_7_code 29 = .ok (.iastore, 1) := by decide +kernel
theorem d_Mo_takeBlock_30 : decode prog_13_method_7_code 30 = .ok (.iinc 1 1, 3) := by decide +kernel
theorem d_Mo_takeBlock_33 : decode prog_13_method_7_code 33 = .ok (.goto (-23), 3) := by decide +kernel
theorem d_Mo_takeBlock_36 : decode prog_13_method_7_code 36 = .ok (.return_, 1) := by decide +kernel
theorem d_Mo_packBlock_0 : decode prog_13_method_8_code 0 = .ok (.aload_n 0, 1) := by decide +kernel
theorem d_Mo_packBlock_1 : decode prog_13_method_8_code 1 = .ok (.iconst 0, 1) := by decide +kernel
theorem d_Mo_packBlock_2 : decode prog_13_method_8_code 2 = .ok (.putfield 87, 3) := by decide +kernel
theorem d_Mo_packBlock_5 : decode prog_13_method_8_code 5 = .ok (.iconst 0, 1) := by decide +kernel
theorem d_Mo_packBlock_6 : decode prog_13_method_8_code 6 = .ok (.istore_n 1, 1) := by decide +kernel
theorem d_Mo_packBlock_7 : decode prog_13_method_8_code 7 = .ok (.iconst 0, 1) := by decide +kernel
theorem d_Mo_packBlock_8 : decode prog_13_method_8_code 8 = .ok (.istore_n 2, 1) := by decide +kernel
theorem d_Mo_packBlock_9 : decode prog_13_method_8_code 9 = .ok (.iload_n 2, 1) := by decide +kernel
theorem d_Mo_packBlock_10 : decode prog_13_method_8_code 10 = .ok (.aload_n 0, 1) := by decide +kernel
theorem d_Mo_packBlock_11 : decode prog_13_method_8_code 11 = .ok (.getfield 76, 3) := by decide +kernel
theorem d_Mo_packBlock_14 : decode prog_13_method_8_code 14 = .ok (.if_icmp .ge 136, 3) := by decide +kernel
theorem d_Mo_packBlock_17 : decode prog_13_method_8_code 17 = .ok (.iload_n 1, 1) := by decide +kernel
theorem d_Mo_packBlock_18 : decode prog_13_method_8_code 18 = .ok (.ifCond .le 29, 3) := by decide +kernel
theorem d_Mo_packBlock_21 : decode prog_13_method_8_code 21 = .ok (.aload_n 0, 1) := by decide +kernel
theorem d_Mo_packBlock_22 : decode prog_13_method_8_code 22 = .ok (.getfield 7, 3) := by decide +kernel
theorem d_Mo_packBlock_25 : decode prog_13_method_8_code 25 = .ok (.iload_n 2, 1) := by decide +kernel
theorem d_Mo_packBlock_26 : decode prog_13_method_8_code 26 = .ok (.iaload, 1) := by decide +kernel
theorem d_Mo_packBlock_27 : decode prog_13_method_8_code 27 = .ok (.aload_n 0, 1) := by decide +kernel
theorem d_Mo_packBlock_28 : decode prog_13_method_8_code 28 = .ok (.getfield 13, 3) := by decide +kernel
theorem d_Mo_packBlock_31 : decode prog_13_method_8_code 31 = .ok (.aload_n 0, 1) := by decide +kernel
theorem d_Mo_packBlock_32 : decode prog_13_method_8_code 32 = .ok (.getfield 87, 3) := by decide +kernel
theorem d_Mo_packBlock_35 : decode prog_13_method_8_code 35 = .ok (.iconst 1, 1) := by decide +kernel
theorem d_Mo_packBlock_36 : decode prog_13_method_8_code 36 = .ok (.isub, 1) := by decide +kernel
theorem d_Mo_packBlock_37 : decode prog_13_method_8_code 37 = .ok (.iaload, 1) := by decide +kernel
theorem d_Mo_packBlock_38 : decode prog_13_method_8_code 38 = .ok (.if_icmp .ne 9, 3) := by decide +kernel
theorem d_Mo_packBlock_41 : decode prog_13_method_8_code 41 = .ok (.iload_n 1, 1) := by decide +kernel
theorem d_Mo_packBlock_42 : decode prog_13_method_8_code 42 = .ok (.iconst 1, 1) := by decide +kernel
theorem d_Mo_packBlock_43 : decode prog_13_method_8_code 43 = .ok (.iadd, 1) := by decide +kernel
theorem d_Mo_packBlock_44 : decode prog_13_method_8_code 44 = .ok (.goto 4, 3) := by decide +kernel
theorem d_Mo_packBlock_47 : decode prog_13_method_8_code 47 = .ok (.iconst 1, 1) := by decide +kernel
theorem d_Mo_packBlock_48 : decode prog_13_method_8_code 48 = .ok (.istore_n 1, 1) := by decide +kernel
theorem d_Mo_packBlock_49 : decode prog_13_method_8_code 49 = .ok (.aload_n 0, 1) := by decide +kernel
theorem d_Mo_packBlock_50 : decode prog_13_method_8_code 50 = .ok (.getfield 13, 3) := by decide +kernel
theorem d_Mo_packBlock_53 : decode prog_13_method_8_code 53 = .ok (.aload_n 0, 1) := by decide +kernel
theorem d_Mo_packBlock_54 : decode prog_13_method_8_code 54 = .ok (.dup, 1) := by decide +kernel
theorem d_Mo_packBlock_55 : decode prog_13_method_8_code 55 = .ok (.getfield 87, 3) := by decide +kernel
theorem d_Mo_packBlock_58 : decode prog_13_method_8_code 58 = .ok (.dup_x1, 1) := by decide +kernel
theorem d_Mo_packBlock_59 : decode prog_13_method_8_code 59 = .ok (.iconst 1, 1) := by decide +kernel
theorem d_Mo_packBlock_60 : decode prog_13_method_8_code 60 = .ok (.iadd, 1) := by decide +kernel
theorem d_Mo_packBlock_61 : decode prog_13_method_8_code 61 = .ok (.putfield 87, 3) := by decide +kernel
theorem d_Mo_packBlock_64 : decode prog_13_method_8_code 64 = .ok (.aload_n 0, 1) := by decide +kernel
theorem d_Mo_packBlock_65 : decode prog_13_method_8_code 65 = .ok (.getfield 7, 3) := by decide +kernel
theorem d_Mo_packBlock_68 : decode prog_13_method_8_code 68 = .ok (.iload_n 2, 1) := by decide +kernel
theorem d_Mo_packBlock_69 : decode prog_13_method_8_code 69 = .ok (.iinc 2 1, 3) := by decide +kernel
theorem d_Mo_packBlock_72 : decode prog_13_method_8_code 72 = .ok (.iaload, 1) := by decide +kernel
theorem d_Mo_packBlock_73 : decode prog_13_method_8_code 73 = .ok (.iastore, 1) := by decide +kernel
theorem d_Mo_packBlock_74 : decode prog_13_method_8_code 74 = .ok (.iload_n 1, 1) := by decide +kernel
theorem d_Mo_packBlock_75 : decode prog_13_method_8_code 75 = .ok (.iconst 4, 1) := by decide +kernel
theorem d_Mo_packBlock_76 : decode prog_13_method_8_code 76 = .ok (.if_icmp .ge 6, 3) := by decide +kernel
theorem d_Mo_packBlock_79 : decode prog_13_method_8_code 79 = .ok (.goto (-70), 3) := by decide +kernel
theorem d_Mo_packBlock_82 : decode prog_13_method_8_code 82 = .ok (.iconst 0, 1) := by decide +kernel
theorem d_Mo_packBlock_83 : decode prog_13_method_8_code 83 = .ok (.istore_n 3, 1) := by decide +kernel
theorem d_Mo_packBlock_84 : decode prog_13_method_8_code 84 = .ok (.iload_n 3, 1) := by decide +kernel
theorem d_Mo_packBlock_85 : decode prog_13_method_8_code 85 = .ok (.sipush 251, 3) := by decide +kernel
theorem d_Mo_packBlock_88 : decode prog_13_method_8_code 88 = .ok (.if_icmp .ge 40, 3) := by decide +kernel
theorem d_Mo_packBlock_91 : decode prog_13_method_8_code 91 = .ok (.iload_n 2, 1) := by decide +kernel
theorem d_Mo_packBlock_92 : decode prog_13_method_8_code 92 = .ok (.aload_n 0, 1) := by decide +kernel
theorem d_Mo_packBlock_93 : decode prog_13_method_8_code 93 = .ok (.getfield 76, 3) := by decide +kernel
theorem d_Mo_packBlock_96 : decode prog_13_method_8_code 96 = .ok (.if_icmp .ge 32, 3) := by decide +kernel
theorem d_Mo_packBlock_99 : decode prog_13_method_8_code 99 = .ok (.aload_n 0, 1) := by decide +kernel
theorem d_Mo_packBlock_100 : decode prog_13_method_8_code 100 = .ok (.getfield 7, 3) := by decide +kernel
theorem d_Mo_packBlock_103 : decode prog_13_method_8_code 103 = .ok (.iload_n 2, 1) := by decide +kernel
theorem d_Mo_packBlock_104 : decode prog_13_method_8_code 104 = .ok (.iaload, 1) := by decide +kernel
theorem d_Mo_packBlock_105 : decode prog_13_method_8_code 105 = .ok (.aload_n 0, 1) := by decide +kernel
theorem d_Mo_packBlock_106 : decode prog_13_method_8_code 106 = .ok (.getfield 13, 3) := by decide +kernel
theorem d_Mo_packBlock_109 : decode prog_13_method_8_code 109 = .ok (.aload_n 0, 1) := by decide +kernel
theorem d_Mo_packBlock_110 : decode prog_13_method_8_code 110 = .ok (.getfield 87, 3) := by decide +kernel
theorem d_Mo_packBlock_113 : decode prog_13_method_8_code 113 = .ok (.iconst 1, 1) := by decide +kernel
theorem d_Mo_packBlock_114 : decode prog_13_method_8_code 114 = .ok (.isub, 1) := by decide +kernel
theorem d_Mo_packBlock_115 : decode prog_13_method_8_code 115 = .ok (.iaload, 1) := by decide +kernel
theorem d_Mo_packBlock_116 : decode prog_13_method_8_code 116 = .ok (.if_icmp .ne 12, 3) := by decide +kernel
theorem d_Mo_packBlock_119 : decode prog_13_method_8_code 119 = .ok (.iinc 3 1, 3) := by decide +kernel
theorem d_Mo_packBlock_122 : decode prog_13_method_8_code 122 = .ok (.iinc 2 1, 3) := by decide +kernel
theorem d_Mo_packBlock_125 : decode prog_13_method_8_code 125 = .ok (.goto (-41), 3) := by decide +kernel
theorem d_Mo_packBlock_128 : decode prog_13_method_8_code 128 = .ok (.aload_n 0, 1) := by decide +kernel
theorem d_Mo_packBlock_129 : decode prog_13_method_8_code 129 = .ok (.getfield 13, 3) := by decide +kernel
theorem d_Mo_packBlock_132 : decode prog_13_method_8_code 132 = .ok (.aload_n 0, 1) := by decide +kernel
theorem d_Mo_packBlock_133 : decode prog_13_method_8_code 133 = .ok (.dup, 1) := by decide +kernel
theorem d_Mo_packBlock_134 : decode prog_13_method_8_code 134 = .ok (.getfield 87, 3) := by decide +kernel
theorem d_Mo_packBlock_137 : decode prog_13_method_8_code 137 = .ok (.dup_x1, 1) := by decide +kernel
theorem d_Mo_packBlock_138 : decode prog_13_method_8_code 138 = .ok (.iconst 1, 1) := by decide +kernel
theorem d_Mo_packBlock_139 : decode prog_13_method_8_code 139 = .ok (.iadd, 1) := by decide +kernel
theorem d_Mo_packBlock_140 : decode prog_13_method_8_code 140 = .ok (.putfield 87, 3) := by decide +kernel
theorem d_Mo_packBlock_143 : decode prog_13_method_8_code 143 = .ok (.iload_n 3, 1) := by decide +kernel
theorem d_Mo_packBlock_144 : decode prog_13_method_8_code 144 = .ok (.iastore, 1) := by decide +kernel
theorem d_Mo_packBlock_145 : decode prog_13_method_8_code 145 = .ok (.iconst 0, 1) := by decide +kernel
theorem d_Mo_packBlock_146 : decode prog_13_method_8_code 146 = .ok (.istore_n 1, 1) := by decide +kernel
theorem d_Mo_packBlock_147 : decode prog_13_method_8_code 147 = .ok (.goto (-138), 3) := by decide +kernel
theorem d_Mo_packBlock_150 : decode prog_13_method_8_code 150 = .ok (.return_, 1) := by decide +kernel
theorem d_Mo_pack_0 : decode prog_13_method_9_code 0 = .ok (.aload_n 0, 1) := by decide +kernel
theorem d_Mo_pack_1 : decode prog_13_method_9_code 1 = .ok (.invokevirtual 90, 3) := by decide +kernel
theorem d_Mo_pack_4 : decode prog_13_method_9_code 4 = .ok (.aload_n 0, 1) := by decide +kernel
theorem d_Mo_pack_5 : decode prog_13_method_9_code 5 = .ok (.getfield 87, 3) := by decide +kernel
theorem d_Mo_pack_8 : decode prog_13_method_9_code 8 = .ok (.ireturn, 1) := by decide +kernel
theorem d_Mo_packed_0 : decode prog_13_method_10_code 0 = .ok (.aload_n 0, 1) := by decide +kernel
theorem d_Mo_packed_1 : decode prog_13_method_10_code 1 = .ok (.invokevirtual 90, 3) := by decide +kernel
theorem d_Mo_packed_4 : decode prog_13_method_10_code 4 = .ok (.iload_n 1, 1) := by decide +kernel
theorem d_Mo_packed_5 : decode prog_13_method_10_code 5 = .ok (.i2l, 1) := by decide +kernel
theorem d_Mo_packed_6 : decode prog_13_method_10_code 6 = .ok (.lconst 0, 1) := by decide +kernel
theorem d_Mo_packed_7 : decode prog_13_method_10_code 7 = .ok (.aload_n 0, 1) := by decide +kernel
theorem d_Mo_packed_8 : decode prog_13_method_10_code 8 = .ok (.getfield 87, 3) := by decide +kernel
theorem d_Mo_packed_11 : decode prog_13_method_10_code 11 = .ok (.iconst 1, 1) := by decide +kernel
theorem d_Mo_packed_12 : decode prog_13_method_10_code 12 = .ok (.isub, 1) := by decide +kernel
theorem d_Mo_packed_13 : decode prog_13_method_10_code 13 = .ok (.i2l, 1) := by decide +kernel
theorem d_Mo_packed_14 : decode prog_13_method_10_code 14 = .ok (.invokestatic 72, 3) := by decide +kernel
theorem d_Mo_packed_17 : decode prog_13_method_10_code 17 = .ok (.ifCond .eq 12, 3) := by decide +kernel
theorem d_Mo_packed_20 : decode prog_13_method_10_code 20 = .ok (.aload_n 0, 1) := by decide +kernel
theorem d_Mo_packed_21 : decode prog_13_method_10_code 21 = .ok (.getfield 13, 3) := by decide +kernel
theorem d_Mo_packed_24 : decode prog_13_method_10_code 24 = .ok (.iload_n 1, 1) := by decide +kernel
theorem d_Mo_packed_25 : decode prog_13_method_10_code 25 = .ok (.iaload, 1) := by decide +kernel
theorem d_Mo_packed_26 : decode prog_13_method_10_code 26 = .ok (.goto 5, 3) := by decide +kernel
theorem d_Mo_packed_29 : decode prog_13_method_10_code 29 = .ok (.bipush (-2), 2) := by decide +kernel
theorem d_Mo_packed_31 : decode prog_13_method_10_code 31 = .ok (.ireturn, 1) := by decide +kernel
theorem d_Mo_parts_0 : decode prog_13_method_11_code 0 = .ok (.iconst 0, 1) := by decide +kernel
theorem d_Mo_parts_1 : decode prog_13_method_11_code 1 = .ok (.istore_n 3, 1) := by decide +kernel
theorem d_Mo_parts_2 : decode prog_13_method_11_code 2 = .ok (.iload_n 3, 1) := by decide +kernel
theorem d_Mo_parts_3 : decode prog_13_method_11_code 3 = .ok (.aload_n 0, 1) := by decide +kernel
theorem d_Mo_parts_4 : decode prog_13_method_11_code 4 = .ok (.getfield 87, 3) := by decide +kernel
theorem d_Mo_parts_7 : decode prog_13_method_11_code 7 = .ok (.if_icmp .ge 38, 3) := by decide +kernel
theorem d_Mo_parts_10 : decode prog_13_method_11_code 10 = .ok (.aload_n 0, 1) := by decide +kernel
theorem d_Mo_parts_11 : decode prog_13_method_11_code 11 = .ok (.getfield 13, 3) := by decide +kernel
theorem d_Mo_parts_14 : decode prog_13_method_11_code 14 = .ok (.iload_n 1, 1) := by decide +kernel
theorem d_Mo_parts_15 : decode prog_13_method_11_code 15 = .ok (.iload_n 3, 1) := by decide +kernel
theorem d_Mo_parts_16 : decode prog_13_method_11_code 16 = .ok (.iadd, 1) := by decide +kernel
theorem d_Mo_parts_17 : decode prog_13_method_11_code 17 = .ok (.aload_n 0, 1) := by decide +kernel
theorem d_Mo_parts_18 : decode prog_13_method_11_code 18 = .ok (.getfield 87, 3) := by decide +kernel
theorem d_Mo_parts_21 : decode prog_13_method_11_code 21 = .ok (.irem, 1) := by decide +kernel
theorem d_Mo_parts_22 : decode prog_13_method_11_code 22 = .ok (.iaload, 1) := by decide +kernel
theorem d_Mo_parts_23 : decode prog_13_method_11_code 23 = .ok (.aload_n 0, 1) := by decide +kernel
theorem d_Mo_parts_24 : decode prog_13_method_11_code 24 = .ok (.getfield 13, 3) := by decide +kernel
theorem d_Mo_parts_27 : decode prog_13_method_11_code 27 = .ok (.iload_n 2, 1) := by decide +kernel
theorem d_Mo_parts_28 : decode prog_13_method_11_code 28 = .ok (.iload_n 3, 1) := by decide +kernel
theorem d_Mo_parts_29 : decode prog_13_method_11_code 29 = .ok (.iadd, 1) := by decide +kernel
theorem d_Mo_parts_30 : decode prog_13_method_11_code 30 = .ok (.aload_n 0, 1) := by decide +kernel
theorem d_Mo_parts_31 : decode prog_13_method_11_code 31 = .ok (.getfield 87, 3) := by decide +kernel
theorem d_Mo_parts_34 : decode prog_13_method_11_code 34 = .ok (.irem, 1) := by decide +kernel
theorem d_Mo_parts_35 : decode prog_13_method_11_code 35 = .ok (.iaload, 1) := by decide +kernel
theorem d_Mo_parts_36 : decode prog_13_method_11_code 36 = .ok (.if_icmp .ne 9, 3) := by decide +kernel
theorem d_Mo_parts_39 : decode prog_13_method_11_code 39 = .ok (.iinc 3 1, 3) := by decide +kernel
theorem d_Mo_parts_42 : decode prog_13_method_11_code 42 = .ok (.goto (-40), 3) := by decide +kernel
theorem d_Mo_parts_45 : decode prog_13_method_11_code 45 = .ok (.iload_n 3, 1) := by decide +kernel
theorem d_Mo_parts_46 : decode prog_13_method_11_code 46 = .ok (.ireturn, 1) := by decide +kernel
theorem d_Mo_isAbove_0 : decode prog_13_method_12_code 0 = .ok (.aload_n 0, 1) := by decide +kernel
theorem d_Mo_isAbove_1 : decode prog_13_method_12_code 1 = .ok (.iload_n 1, 1) := by decide +kernel
theorem d_Mo_isAbove_2 : decode prog_13_method_12_code 2 = .ok (.iload_n 2, 1) := by decide +kernel
theorem d_Mo_isAbove_3 : decode prog_13_method_12_code 3 = .ok (.invokevirtual 93, 3) := by decide +kernel
theorem d_Mo_isAbove_6 : decode prog_13_method_12_code 6 = .ok (.istore_n 3, 1) := by decide +kernel
theorem d_Mo_isAbove_7 : decode prog_13_method_12_code 7 = .ok (.iload_n 3, 1) := by decide +kernel
theorem d_Mo_isAbove_8 : decode prog_13_method_12_code 8 = .ok (.aload_n 0, 1) := by decide +kernel
theorem d_Mo_isAbove_9 : decode prog_13_method_12_code 9 = .ok (.getfield 87, 3) := by decide +kernel
theorem d_Mo_isAbove_12 : decode prog_13_method_12_code 12 = .ok (.if_icmp .ge 36, 3) := by decide +kernel
theorem d_Mo_isAbove_15 : decode prog_13_method_12_code 15 = .ok (.aload_n 0, 1) := by decide +kernel
theorem d_Mo_isAbove_16 : decode prog_13_method_12_code 16 = .ok (.getfield 13, 3) := by decide +kernel
theorem d_Mo_isAbove_19 : decode prog_13_method_12_code 19 = .ok (.iload_n 1, 1) := by decide +kernel
theorem d_Mo_isAbove_20 : decode prog_13_method_12_code 20 = .ok (.iload_n 3, 1) := by decide +kernel
theorem d_Mo_isAbove_21 : decode prog_13_method_12_code 21 = .ok (.iadd, 1) := by decide +kernel
theorem d_Mo_isAbove_22 : decode prog_13_method_12_code 22 = .ok (.aload_n 0, 1) := by decide +kernel
theorem d_Mo_isAbove_23 : decode prog_13_method_12_code 23 = .ok (.getfield 87, 3) := by decide +kernel
theorem d_Mo_isAbove_26 : decode prog_13_method_12_code 26 = .ok (.irem, 1) := by decide +kernel
theorem d_Mo_isAbove_27 : decode prog_13_method_12_code 27 = .ok (.iaload, 1) := by decide +kernel
theorem d_Mo_isAbove_28 : decode prog_13_method_12_code 28 = .ok (.aload_n 0, 1) := by decide +kernel
theorem d_Mo_isAbove_29 : decode prog_13_method_12_code 29 = .ok (.getfield 13, 3) := by decide +kernel
theorem d_Mo_isAbove_32 : decode prog_13_method_12_code 32 = .ok (.iload_n 2, 1) := by decide +kernel
theorem d_Mo_isAbove_33 : decode prog_13_method_12_code 33 = .ok (.iload_n 3, 1) := by decide +kernel
theorem d_Mo_isAbove_34 : decode prog_13_method_12_code 34 = .ok (.iadd, 1) := by decide +kernel
theorem d_Mo_isAbove_35 : decode prog_13_method_12_code 35 = .ok (.aload_n 0, 1) := by decide +kernel
theorem d_Mo_isAbove_36 : decode prog_13_method_12_code 36 = .ok (.getfield 87, 3) := by decide +kernel
theorem d_Mo_isAbove_39 : decode prog_13_method_12_code 39 = .ok (.irem, 1) := by decide +kernel
theorem d_Mo_isAbove_40 : decode prog_13_method_12_code 40 = .ok (.iaload, 1) := by decide +kernel
theorem d_Mo_isAbove_41 : decode prog_13_method_12_code 41 = .ok (.if_icmp .le 7, 3) := by decide +kernel
theorem d_Mo_isAbove_44 : decode prog_13_method_12_code 44 = .ok (.iconst 1, 1) := by decide +kernel
theorem d_Mo_isAbove_45 : decode prog_13_method_12_code 45 = .ok (.goto 4, 3) := by decide +kernel
theorem d_Mo_isAbove_48 : decode prog_13_method_12_code 48 = .ok (.iconst 0, 1) := by decide +kernel
theorem d_Mo_isAbove_49 : decode prog_13_method_12_code 49 = .ok (.ireturn, 1) := by decide +kernel

theorem d_S_init_0 : decode prog_1_method_1_code 0 = .ok (.aload_n 0, 1) := by decide +kernel
theorem d_S_init_1 : decode prog_1_method_1_code 1 = .ok (.invokespecial 3, 3) := by decide +kernel
theorem d_S_init_4 : decode prog_1_method_1_code 4 = .ok (.aload_n 0, 1) := by decide +kernel
theorem d_S_init_5 : decode prog_1_method_1_code 5 = .ok (.new 9, 3) := by decide +kernel
theorem d_S_init_8 : decode prog_1_method_1_code 8 = .ok (.dup, 1) := by decide +kernel
theorem d_S_init_9 : decode prog_1_method_1_code 9 = .ok (.sipush 600, 3) := by decide +kernel
theorem d_S_init_12 : decode prog_1_method_1_code 12 = .ok (.invokespecial 11, 3) := by decide +kernel
theorem d_S_init_15 : decode prog_1_method_1_code 15 = .ok (.putfield 14, 3) := by decide +kernel
theorem d_S_init_18 : decode prog_1_method_1_code 18 = .ok (.aload_n 0, 1) := by decide +kernel
theorem d_S_init_19 : decode prog_1_method_1_code 19 = .ok (.new 9, 3) := by decide +kernel
theorem d_S_init_22 : decode prog_1_method_1_code 22 = .ok (.dup, 1) := by decide +kernel
theorem d_S_init_23 : decode prog_1_method_1_code 23 = .ok (.sipush 750, 3) := by decide +kernel
theorem d_S_init_26 : decode prog_1_method_1_code 26 = .ok (.invokespecial 11, 3) := by decide +kernel
theorem d_S_init_29 : decode prog_1_method_1_code 29 = .ok (.putfield 18, 3) := by decide +kernel
theorem d_S_init_32 : decode prog_1_method_1_code 32 = .ok (.aload_n 0, 1) := by decide +kernel
theorem d_S_init_33 : decode prog_1_method_1_code 33 = .ok (.new 21, 3) := by decide +kernel
theorem d_S_init_36 : decode prog_1_method_1_code 36 = .ok (.dup, 1) := by decide +kernel
theorem d_S_init_37 : decode prog_1_method_1_code 37 = .ok (.invokespecial 23, 3) := by decide +kernel
theorem d_S_init_40 : decode prog_1_method_1_code 40 = .ok (.putfield 24, 3) := by decide +kernel
theorem d_S_init_43 : decode prog_1_method_1_code 43 = .ok (.aload_n 0, 1) := by decide +kernel
theorem d_S_init_44 : decode prog_1_method_1_code 44 = .ok (.new 28, 3) := by decide +kernel
theorem d_S_init_47 : decode prog_1_method_1_code 47 = .ok (.dup, 1) := by decide +kernel
theorem d_S_init_48 : decode prog_1_method_1_code 48 = .ok (.invokespecial 30, 3) := by decide +kernel
theorem d_S_init_51 : decode prog_1_method_1_code 51 = .ok (.putfield 31, 3) := by decide +kernel
theorem d_S_init_54 : decode prog_1_method_1_code 54 = .ok (.aload_n 0, 1) := by decide +kernel
theorem d_S_init_55 : decode prog_1_method_1_code 55 = .ok (.new 35, 3) := by decide +kernel
theorem d_S_init_58 : decode prog_1_method_1_code 58 = .ok (.dup, 1) := by decide +kernel
theorem d_S_init_59 : decode prog_1_method_1_code 59 = .ok (.invokespecial 37, 3) := by decide +kernel
theorem d_S_init_62 : decode prog_1_method_1_code 62 = .ok (.putfield 38, 3) := by decide +kernel
theorem d_S_init_65 : decode prog_1_method_1_code 65 = .ok (.return_, 1) := by decide +kernel
theorem d_S_feed_0 : decode prog_1_method_2_code 0 = .ok (.aload_n 0, 1) := by decide +kernel
theorem d_S_feed_1 : decode prog_1_method_2_code 1 = .ok (.getfield 14, 3) := by decide +kernel
theorem d_S_feed_4 : decode prog_1_method_2_code 4 = .ok (.lload_n 1, 1) := by decide +kernel
theorem d_S_feed_5 : decode prog_1_method_2_code 5 = .ok (.iload_n 3, 1) := by decide +kernel
theorem d_S_feed_6 : decode prog_1_method_2_code 6 = .ok (.invokestatic 42, 3) := by decide +kernel
theorem d_S_feed_9 : decode prog_1_method_2_code 9 = .ok (.istore 4, 2) := by decide +kernel
theorem d_S_feed_11 : decode prog_1_method_2_code 11 = .ok (.iload 4, 2) := by decide +kernel
theorem d_S_feed_13 : decode prog_1_method_2_code 13 = .ok (.ifCond .le 7, 3) := by decide +kernel
theorem d_S_feed_16 : decode prog_1_method_2_code 16 = .ok (.aload_n 0, 1) := by decide +kernel
theorem d_S_feed_17 : decode prog_1_method_2_code 17 = .ok (.invokevirtual 46, 3) := by decide +kernel
theorem d_S_feed_20 : decode prog_1_method_2_code 20 = .ok (.iload 4, 2) := by decide +kernel
theorem d_S_feed_22 : decode prog_1_method_2_code 22 = .ok (.ireturn, 1) := by decide +kernel
theorem d_S_fill_0 : decode prog_1_method_3_code 0 = .ok (.iload_n 1, 1) := by decide +kernel
theorem d_S_fill_1 : decode prog_1_method_3_code 1 = .ok (.iconst 1, 1) := by decide +kernel
theorem d_S_fill_2 : decode prog_1_method_3_code 2 = .ok (.if_icmp .lt 17, 3) := by decide +kernel
theorem d_S_fill_5 : decode prog_1_method_3_code 5 = .ok (.iload_n 1, 1) := by decide +kernel
theorem d_S_fill_6 : decode prog_1_method_3_code 6 = .ok (.sipush 600, 3) := by decide +kernel
theorem d_S_fill_9 : decode prog_1_method_3_code 9 = .ok (.if_icmp .gt 10, 3) := by decide +kernel
theorem d_S_fill_12 : decode prog_1_method_3_code 12 = .ok (.iload_n 2, 1) := by decide +kernel
theorem d_S_fill_13 : decode prog_1_method_3_code 13 = .ok (.invokestatic 49, 3) := by decide +kernel
theorem d_S_fill_16 : decode prog_1_method_3_code 16 = .ok (.ifCond .ne 5, 3) := by decide +kernel
theorem d_S_fill_19 : decode prog_1_method_3_code 19 = .ok (.iconst (-1), 1) := by decide +kernel
theorem d_S_fill_20 : decode prog_1_method_3_code 20 = .ok (.ireturn, 1) := by decide +kernel
theorem d_S_fill_21 : decode prog_1_method_3_code 21 = .ok (.aload_n 0, 1) := by decide +kernel
theorem d_S_fill_22 : decode prog_1_method_3_code 22 = .ok (.getfield 14, 3) := by decide +kernel
theorem d_S_fill_25 : decode prog_1_method_3_code 25 = .ok (.iload_n 1, 1) := by decide +kernel
theorem d_S_fill_26 : decode prog_1_method_3_code 26 = .ok (.invokevirtual 53, 3) := by decide +kernel
theorem d_S_fill_29 : decode prog_1_method_3_code 29 = .ok (.ifCond .ne 6, 3) := by decide +kernel
theorem d_S_fill_32 : decode prog_1_method_3_code 32 = .ok (.bipush (-3), 2) := by decide +kernel
theorem d_S_fill_34 : decode prog_1_method_3_code 34 = .ok (.ireturn, 1) := by decide +kernel
theorem d_S_fill_35 : decode prog_1_method_3_code 35 = .ok (.aload_n 0, 1) := by decide +kernel
theorem d_S_fill_36 : decode prog_1_method_3_code 36 = .ok (.getfield 14, 3) := by decide +kernel
theorem d_S_fill_39 : decode prog_1_method_3_code 39 = .ok (.iload_n 1, 1) := by decide +kernel
theorem d_S_fill_40 : decode prog_1_method_3_code 40 = .ok (.iload_n 2, 1) := by decide +kernel
theorem d_S_fill_41 : decode prog_1_method_3_code 41 = .ok (.invokevirtual 56, 3) := by decide +kernel
theorem d_S_fill_44 : decode prog_1_method_3_code 44 = .ok (.aload_n 0, 1) := by decide +kernel
theorem d_S_fill_45 : decode prog_1_method_3_code 45 = .ok (.invokevirtual 46, 3) := by decide +kernel
theorem d_S_fill_48 : decode prog_1_method_3_code 48 = .ok (.aload_n 0, 1) := by decide +kernel
theorem d_S_fill_49 : decode prog_1_method_3_code 49 = .ok (.getfield 14, 3) := by decide +kernel
theorem d_S_fill_52 : decode prog_1_method_3_code 52 = .ok (.getfield 60, 3) := by decide +kernel
theorem d_S_fill_55 : decode prog_1_method_3_code 55 = .ok (.ireturn, 1) := by decide +kernel
theorem d_S_clear_0 : decode prog_1_method_4_code 0 = .ok (.aload_n 0, 1) := by decide +kernel
theorem d_S_clear_1 : decode prog_1_method_4_code 1 = .ok (.getfield 14, 3) := by decide +kernel
theorem d_S_clear_4 : decode prog_1_method_4_code 4 = .ok (.getfield 60, 3) := by decide +kernel
theorem d_S_clear_7 : decode prog_1_method_4_code 7 = .ok (.istore_n 1, 1) := by decide +kernel
theorem d_S_clear_8 : decode prog_1_method_4_code 8 = .ok (.aload_n 0, 1) := by decide +kernel
theorem d_S_clear_9 : decode prog_1_method_4_code 9 = .ok (.getfield 14, 3) := by decide +kernel
theorem d_S_clear_12 : decode prog_1_method_4_code 12 = .ok (.iconst 0, 1) := by decide +kernel
theorem d_S_clear_13 : decode prog_1_method_4_code 13 = .ok (.invokevirtual 64, 3) := by decide +kernel
theorem d_S_clear_16 : decode prog_1_method_4_code 16 = .ok (.aload_n 0, 1) := by decide +kernel
theorem d_S_clear_17 : decode prog_1_method_4_code 17 = .ok (.invokevirtual 46, 3) := by decide +kernel
theorem d_S_clear_20 : decode prog_1_method_4_code 20 = .ok (.iload_n 1, 1) := by decide +kernel
theorem d_S_clear_21 : decode prog_1_method_4_code 21 = .ok (.ireturn, 1) := by decide +kernel
theorem d_S_octet_0 : decode prog_1_method_5_code 0 = .ok (.aload_n 0, 1) := by decide +kernel
theorem d_S_octet_1 : decode prog_1_method_5_code 1 = .ok (.getfield 14, 3) := by decide +kernel
theorem d_S_octet_4 : decode prog_1_method_5_code 4 = .ok (.iload_n 1, 1) := by decide +kernel
theorem d_S_octet_5 : decode prog_1_method_5_code 5 = .ok (.invokevirtual 67, 3) := by decide +kernel
theorem d_S_octet_8 : decode prog_1_method_5_code 8 = .ok (.ireturn, 1) := by decide +kernel
theorem d_S_pack_0 : decode prog_1_method_6_code 0 = .ok (.aload_n 0, 1) := by decide +kernel
theorem d_S_pack_1 : decode prog_1_method_6_code 1 = .ok (.invokevirtual 71, 3) := by decide +kernel
theorem d_S_pack_4 : decode prog_1_method_6_code 4 = .ok (.aload_n 0, 1) := by decide +kernel
theorem d_S_pack_5 : decode prog_1_method_6_code 5 = .ok (.getfield 18, 3) := by decide +kernel
theorem d_S_pack_8 : decode prog_1_method_6_code 8 = .ok (.getfield 60, 3) := by decide +kernel
theorem d_S_pack_11 : decode prog_1_method_6_code 11 = .ok (.ireturn, 1) := by decide +kernel
theorem d_S_packed_0 : decode prog_1_method_7_code 0 = .ok (.aload_n 0, 1) := by decide +kernel
theorem d_S_packed_1 : decode prog_1_method_7_code 1 = .ok (.invokevirtual 71, 3) := by decide +kernel
theorem d_S_packed_4 : decode prog_1_method_7_code 4 = .ok (.aload_n 0, 1) := by decide +kernel
theorem d_S_packed_5 : decode prog_1_method_7_code 5 = .ok (.getfield 18, 3) := by decide +kernel
theorem d_S_packed_8 : decode prog_1_method_7_code 8 = .ok (.iload_n 1, 1) := by decide +kernel
theorem d_S_packed_9 : decode prog_1_method_7_code 9 = .ok (.invokevirtual 67, 3) := by decide +kernel
theorem d_S_packed_12 : decode prog_1_method_7_code 12 = .ok (.ireturn, 1) := by decide +kernel
theorem d_S_order_0 : decode prog_1_method_8_code 0 = .ok (.aload_n 0, 1) := by decide +kernel
theorem d_S_order_1 : decode prog_1_method_8_code 1 = .ok (.invokevirtual 74, 3) := by decide +kernel
theorem d_S_order_4 : decode prog_1_method_8_code 4 = .ok (.aload_n 0, 1) := by decide +kernel
theorem d_S_order_5 : decode prog_1_method_8_code 5 = .ok (.getfield 24, 3) := by decide +kernel
theorem d_S_order_8 : decode prog_1_method_8_code 8 = .ok (.getfield 77, 3) := by decide +kernel
theorem d_S_order_11 : decode prog_1_method_8_code 11 = .ok (.iload_n 1, 1) := by decide +kernel
theorem d_S_order_12 : decode prog_1_method_8_code 12 = .ok (.invokevirtual 81, 3) := by decide +kernel
theorem d_S_order_15 : decode prog_1_method_8_code 15 = .ok (.ireturn, 1) := by decide +kernel
theorem d_S_last_0 : decode prog_1_method_9_code 0 = .ok (.aload_n 0, 1) := by decide +kernel
theorem d_S_last_1 : decode prog_1_method_9_code 1 = .ok (.invokevirtual 74, 3) := by decide +kernel
theorem d_S_last_4 : decode prog_1_method_9_code 4 = .ok (.aload_n 0, 1) := by decide +kernel
theorem d_S_last_5 : decode prog_1_method_9_code 5 = .ok (.getfield 24, 3) := by decide +kernel
theorem d_S_last_8 : decode prog_1_method_9_code 8 = .ok (.getfield 77, 3) := by decide +kernel
theorem d_S_last_11 : decode prog_1_method_9_code 11 = .ok (.getfield 86, 3) := by decide +kernel
theorem d_S_last_14 : decode prog_1_method_9_code 14 = .ok (.iload_n 1, 1) := by decide +kernel
theorem d_S_last_15 : decode prog_1_method_9_code 15 = .ok (.invokevirtual 67, 3) := by decide +kernel
theorem d_S_last_18 : decode prog_1_method_9_code 18 = .ok (.ireturn, 1) := by decide +kernel
theorem d_S_origin_0 : decode prog_1_method_10_code 0 = .ok (.aload_n 0, 1) := by decide +kernel
theorem d_S_origin_1 : decode prog_1_method_10_code 1 = .ok (.invokevirtual 74, 3) := by decide +kernel
theorem d_S_origin_4 : decode prog_1_method_10_code 4 = .ok (.aload_n 0, 1) := by decide +kernel
theorem d_S_origin_5 : decode prog_1_method_10_code 5 = .ok (.getfield 24, 3) := by decide +kernel
theorem d_S_origin_8 : decode prog_1_method_10_code 8 = .ok (.getfield 77, 3) := by decide +kernel
theorem d_S_origin_11 : decode prog_1_method_10_code 11 = .ok (.iconst 0, 1) := by decide +kernel
theorem d_S_origin_12 : decode prog_1_method_10_code 12 = .ok (.invokevirtual 89, 3) := by decide +kernel
theorem d_S_origin_15 : decode prog_1_method_10_code 15 = .ok (.ireturn, 1) := by decide +kernel
theorem d_S_rounds_0 : decode prog_1_method_11_code 0 = .ok (.aload_n 0, 1) := by decide +kernel
theorem d_S_rounds_1 : decode prog_1_method_11_code 1 = .ok (.getfield 14, 3) := by decide +kernel
theorem d_S_rounds_4 : decode prog_1_method_11_code 4 = .ok (.getfield 60, 3) := by decide +kernel
theorem d_S_rounds_7 : decode prog_1_method_11_code 7 = .ok (.ifCond .ne 6, 3) := by decide +kernel
theorem d_S_rounds_10 : decode prog_1_method_11_code 10 = .ok (.bipush (-2), 2) := by decide +kernel
theorem d_S_rounds_12 : decode prog_1_method_11_code 12 = .ok (.ireturn, 1) := by decide +kernel
theorem d_S_rounds_13 : decode prog_1_method_11_code 13 = .ok (.aload_n 0, 1) := by decide +kernel
theorem d_S_rounds_14 : decode prog_1_method_11_code 14 = .ok (.invokevirtual 74, 3) := by decide +kernel
theorem d_S_rounds_17 : decode prog_1_method_11_code 17 = .ok (.aload_n 0, 1) := by decide +kernel
theorem d_S_rounds_18 : decode prog_1_method_11_code 18 = .ok (.getfield 24, 3) := by decide +kernel
theorem d_S_rounds_21 : decode prog_1_method_11_code 21 = .ok (.getfield 77, 3) := by decide +kernel
theorem d_S_rounds_24 : decode prog_1_method_11_code 24 = .ok (.getfield 92, 3) := by decide +kernel
theorem d_S_rounds_27 : decode prog_1_method_11_code 27 = .ok (.ireturn, 1) := by decide +kernel
theorem d_S_start_0 : decode prog_1_method_12_code 0 = .ok (.iload_n 1, 1) := by decide +kernel
theorem d_S_start_1 : decode prog_1_method_12_code 1 = .ok (.iconst 1, 1) := by decide +kernel
theorem d_S_start_2 : decode prog_1_method_12_code 2 = .ok (.if_icmp .lt 18, 3) := by decide +kernel
theorem d_S_start_5 : decode prog_1_method_12_code 5 = .ok (.iload_n 1, 1) := by decide +kernel
theorem d_S_start_6 : decode prog_1_method_12_code 6 = .ok (.bipush 64, 2) := by decide +kernel
theorem d_S_start_8 : decode prog_1_method_12_code 8 = .ok (.if_icmp .gt 12, 3) := by decide +kernel
theorem d_S_start_11 : decode prog_1_method_12_code 11 = .ok (.iload_n 2, 1) := by decide +kernel
theorem d_S_start_12 : decode prog_1_method_12_code 12 = .ok (.ifCond .lt 8, 3) := by decide +kernel
theorem d_S_start_15 : decode prog_1_method_12_code 15 = .ok (.iload_n 2, 1) := by decide +kernel
theorem d_S_start_16 : decode prog_1_method_12_code 16 = .ok (.iload_n 1, 1) := by decide +kernel
theorem d_S_start_17 : decode prog_1_method_12_code 17 = .ok (.if_icmp .lt 5, 3) := by decide +kernel
theorem d_S_start_20 : decode prog_1_method_12_code 20 = .ok (.iconst (-1), 1) := by decide +kernel
theorem d_S_start_21 : decode prog_1_method_12_code 21 = .ok (.ireturn, 1) := by decide +kernel
theorem d_S_start_22 : decode prog_1_method_12_code 22 = .ok (.aload_n 0, 1) := by decide +kernel
theorem d_S_start_23 : decode prog_1_method_12_code 23 = .ok (.invokevirtual 74, 3) := by decide +kernel
theorem d_S_start_26 : decode prog_1_method_12_code 26 = .ok (.aload_n 0, 1) := by decide +kernel
theorem d_S_start_27 : decode prog_1_method_12_code 27 = .ok (.getfield 24, 3) := by decide +kernel
theorem d_S_start_30 : decode prog_1_method_12_code 30 = .ok (.getfield 77, 3) := by decide +kernel
theorem d_S_start_33 : decode prog_1_method_12_code 33 = .ok (.iload_n 2, 1) := by decide +kernel
theorem d_S_start_34 : decode prog_1_method_12_code 34 = .ok (.aload_n 0, 1) := by decide +kernel
theorem d_S_start_35 : decode prog_1_method_12_code 35 = .ok (.getfield 14, 3) := by decide +kernel
theorem d_S_start_38 : decode prog_1_method_12_code 38 = .ok (.getfield 60, 3) := by decide +kernel
theorem d_S_start_41 : decode prog_1_method_12_code 41 = .ok (.imul, 1) := by decide +kernel
theorem d_S_start_42 : decode prog_1_method_12_code 42 = .ok (.iload_n 1, 1) := by decide +kernel
theorem d_S_start_43 : decode prog_1_method_12_code 43 = .ok (.idiv, 1) := by decide +kernel
theorem d_S_start_44 : decode prog_1_method_12_code 44 = .ok (.invokevirtual 89, 3) := by decide +kernel
theorem d_S_start_47 : decode prog_1_method_12_code 47 = .ok (.ireturn, 1) := by decide +kernel
theorem d_S_steps_0 : decode prog_1_method_13_code 0 = .ok (.iload_n 3, 1) := by decide +kernel
theorem d_S_steps_1 : decode prog_1_method_13_code 1 = .ok (.iconst 1, 1) := by decide +kernel
theorem d_S_steps_2 : decode prog_1_method_13_code 2 = .ok (.if_icmp .lt 20, 3) := by decide +kernel
theorem d_S_steps_5 : decode prog_1_method_13_code 5 = .ok (.iload_n 3, 1) := by decide +kernel
theorem d_S_steps_6 : decode prog_1_method_13_code 6 = .ok (.bipush 8, 2) := by decide +kernel
theorem d_S_steps_8 : decode prog_1_method_13_code 8 = .ok (.if_icmp .gt 14, 3) := by decide +kernel
theorem d_S_steps_11 : decode prog_1_method_13_code 11 = .ok (.iload 4, 2) := by decide +kernel
theorem d_S_steps_13 : decode prog_1_method_13_code 13 = .ok (.ifCond .lt 9, 3) := by decide +kernel
theorem d_S_steps_16 : decode prog_1_method_13_code 16 = .ok (.iload 4, 2) := by decide +kernel
theorem d_S_steps_18 : decode prog_1_method_13_code 18 = .ok (.iconst 2, 1) := by decide +kernel
theorem d_S_steps_19 : decode prog_1_method_13_code 19 = .ok (.if_icmp .le 5, 3) := by decide +kernel
theorem d_S_steps_22 : decode prog_1_method_13_code 22 = .ok (.iconst (-1), 1) := by decide +kernel
theorem d_S_steps_23 : decode prog_1_method_13_code 23 = .ok (.ireturn, 1) := by decide +kernel
theorem d_S_steps_24 : decode prog_1_method_13_code 24 = .ok (.aload_n 0, 1) := by decide +kernel
theorem d_S_steps_25 : decode prog_1_method_13_code 25 = .ok (.invokevirtual 74, 3) := by decide +kernel
theorem d_S_steps_28 : decode prog_1_method_13_code 28 = .ok (.bipush (-2), 2) := by decide +kernel
theorem d_S_steps_30 : decode prog_1_method_13_code 30 = .ok (.istore 5, 2) := by decide +kernel
theorem d_S_steps_32 : decode prog_1_method_13_code 32 = .ok (.iconst 0, 1) := by decide +kernel
theorem d_S_steps_33 : decode prog_1_method_13_code 33 = .ok (.istore 6, 2) := by decide +kernel
theorem d_S_steps_35 : decode prog_1_method_13_code 35 = .ok (.iconst 0, 1) := by decide +kernel
theorem d_S_steps_36 : decode prog_1_method_13_code 36 = .ok (.istore 7, 2) := by decide +kernel
theorem d_S_steps_38 : decode prog_1_method_13_code 38 = .ok (.iload 7, 2) := by decide +kernel
theorem d_S_steps_40 : decode prog_1_method_13_code 40 = .ok (.aload_n 0, 1) := by decide +kernel
theorem d_S_steps_41 : decode prog_1_method_13_code 41 = .ok (.getfield 14, 3) := by decide +kernel
theorem d_S_steps_44 : decode prog_1_method_13_code 44 = .ok (.getfield 60, 3) := by decide +kernel
theorem d_S_steps_47 : decode prog_1_method_13_code 47 = .ok (.if_icmp .ge 47, 3) := by decide +kernel
theorem d_S_steps_50 : decode prog_1_method_13_code 50 = .ok (.aload_n 0, 1) := by decide +kernel
theorem d_S_steps_51 : decode prog_1_method_13_code 51 = .ok (.aload_n 0, 1) := by decide +kernel
theorem d_S_steps_52 : decode prog_1_method_13_code 52 = .ok (.getfield 24, 3) := by decide +kernel
theorem d_S_steps_55 : decode prog_1_method_13_code 55 = .ok (.getfield 77, 3) := by decide +kernel
theorem d_S_steps_58 : decode prog_1_method_13_code 58 = .ok (.iload 7, 2) := by decide +kernel
theorem d_S_steps_60 : decode prog_1_method_13_code 60 = .ok (.invokevirtual 81, 3) := by decide +kernel
theorem d_S_steps_63 : decode prog_1_method_13_code 63 = .ok (.lload_n 1, 1) := by decide +kernel
theorem d_S_steps_64 : decode prog_1_method_13_code 64 = .ok (.iload_n 3, 1) := by decide +kernel
theorem d_S_steps_65 : decode prog_1_method_13_code 65 = .ok (.invokevirtual 95, 3) := by decide +kernel
theorem d_S_steps_68 : decode prog_1_method_13_code 68 = .ok (.ifCond .eq 20, 3) := by decide +kernel
theorem d_S_steps_71 : decode prog_1_method_13_code 71 = .ok (.iload 6, 2) := by decide +kernel
theorem d_S_steps_73 : decode prog_1_method_13_code 73 = .ok (.ifCond .ne 8, 3) := by decide +kernel
theorem d_S_steps_76 : decode prog_1_method_13_code 76 = .ok (.iload 7, 2) := by decide +kernel
theorem d_S_steps_78 : decode prog_1_method_13_code 78 = .ok (.goto 5, 3) := by decide +kernel
theorem d_S_steps_81 : decode prog_1_method_13_code 81 = .ok (.iload 5, 2) := by decide +kernel
theorem d_S_steps_83 : decode prog_1_method_13_code 83 = .ok (.istore 5, 2) := by decide +kernel
theorem d_S_steps_85 : decode prog_1_method_13_code 85 = .ok (.iinc 6 1, 3) := by decide +kernel
theorem d_S_steps_88 : decode prog_1_method_13_code 88 = .ok (.iinc 7 1, 3) := by decide +kernel
theorem d_S_steps_91 : decode prog_1_method_13_code 91 = .ok (.goto (-53), 3) := by decide +kernel
theorem d_S_steps_94 : decode prog_1_method_13_code 94 = .ok (.iload 4, 2) := by decide +kernel
theorem d_S_steps_96 : decode prog_1_method_13_code 96 = .ok (.iconst 2, 1) := by decide +kernel
theorem d_S_steps_97 : decode prog_1_method_13_code 97 = .ok (.if_icmp .ne 6, 3) := by decide +kernel
theorem d_S_steps_100 : decode prog_1_method_13_code 100 = .ok (.iload 6, 2) := by decide +kernel
theorem d_S_steps_102 : decode prog_1_method_13_code 102 = .ok (.ireturn, 1) := by decide +kernel
theorem d_S_steps_103 : decode prog_1_method_13_code 103 = .ok (.iload 4, 2) := by decide +kernel
theorem d_S_steps_105 : decode prog_1_method_13_code 105 = .ok (.ifCond .eq 8, 3) := by decide +kernel
theorem d_S_steps_108 : decode prog_1_method_13_code 108 = .ok (.iload 6, 2) := by decide +kernel
theorem d_S_steps_110 : decode prog_1_method_13_code 110 = .ok (.ifCond .ne 8, 3) := by decide +kernel
theorem d_S_steps_113 : decode prog_1_method_13_code 113 = .ok (.iload 5, 2) := by decide +kernel
theorem d_S_steps_115 : decode prog_1_method_13_code 115 = .ok (.goto 8, 3) := by decide +kernel
theorem d_S_steps_118 : decode prog_1_method_13_code 118 = .ok (.iload 5, 2) := by decide +kernel
theorem d_S_steps_120 : decode prog_1_method_13_code 120 = .ok (.iload 6, 2) := by decide +kernel
theorem d_S_steps_122 : decode prog_1_method_13_code 122 = .ok (.iadd, 1) := by decide +kernel
theorem d_S_steps_123 : decode prog_1_method_13_code 123 = .ok (.ireturn, 1) := by decide +kernel
theorem d_S_back_0 : decode prog_1_method_14_code 0 = .ok (.aload_n 0, 1) := by decide +kernel
theorem d_S_back_1 : decode prog_1_method_14_code 1 = .ok (.getfield 14, 3) := by decide +kernel
theorem d_S_back_4 : decode prog_1_method_14_code 4 = .ok (.getfield 60, 3) := by decide +kernel
theorem d_S_back_7 : decode prog_1_method_14_code 7 = .ok (.ifCond .ne 6, 3) := by decide +kernel
theorem d_S_back_10 : decode prog_1_method_14_code 10 = .ok (.bipush (-2), 2) := by decide +kernel
theorem d_S_back_12 : decode prog_1_method_14_code 12 = .ok (.ireturn, 1) := by decide +kernel
theorem d_S_back_13 : decode prog_1_method_14_code 13 = .ok (.aload_n 0, 1) := by decide +kernel
theorem d_S_back_14 : decode prog_1_method_14_code 14 = .ok (.getfield 14, 3) := by decide +kernel
theorem d_S_back_17 : decode prog_1_method_14_code 17 = .ok (.iload_n 1, 1) := by decide +kernel
theorem d_S_back_18 : decode prog_1_method_14_code 18 = .ok (.invokevirtual 99, 3) := by decide +kernel
theorem d_S_back_21 : decode prog_1_method_14_code 21 = .ok (.ifCond .ne 5, 3) := by decide +kernel
theorem d_S_back_24 : decode prog_1_method_14_code 24 = .ok (.iconst (-1), 1) := by decide +kernel
theorem d_S_back_25 : decode prog_1_method_14_code 25 = .ok (.ireturn, 1) := by decide +kernel
theorem d_S_back_26 : decode prog_1_method_14_code 26 = .ok (.aload_n 0, 1) := by decide +kernel
theorem d_S_back_27 : decode prog_1_method_14_code 27 = .ok (.getfield 24, 3) := by decide +kernel
theorem d_S_back_30 : decode prog_1_method_14_code 30 = .ok (.aload_n 0, 1) := by decide +kernel
theorem d_S_back_31 : decode prog_1_method_14_code 31 = .ok (.getfield 14, 3) := by decide +kernel
theorem d_S_back_34 : decode prog_1_method_14_code 34 = .ok (.iload_n 1, 1) := by decide +kernel
theorem d_S_back_35 : decode prog_1_method_14_code 35 = .ok (.invokevirtual 102, 3) := by decide +kernel
theorem d_S_back_38 : decode prog_1_method_14_code 38 = .ok (.istore_n 2, 1) := by decide +kernel
theorem d_S_back_39 : decode prog_1_method_14_code 39 = .ok (.aload_n 0, 1) := by decide +kernel
theorem d_S_back_40 : decode prog_1_method_14_code 40 = .ok (.getfield 14, 3) := by decide +kernel
theorem d_S_back_43 : decode prog_1_method_14_code 43 = .ok (.aload_n 0, 1) := by decide +kernel
theorem d_S_back_44 : decode prog_1_method_14_code 44 = .ok (.getfield 24, 3) := by decide +kernel
theorem d_S_back_47 : decode prog_1_method_14_code 47 = .ok (.getfield 106, 3) := by decide +kernel
theorem d_S_back_50 : decode prog_1_method_14_code 50 = .ok (.invokevirtual 109, 3) := by decide +kernel
theorem d_S_back_53 : decode prog_1_method_14_code 53 = .ok (.aload_n 0, 1) := by decide +kernel
theorem d_S_back_54 : decode prog_1_method_14_code 54 = .ok (.invokevirtual 46, 3) := by decide +kernel
theorem d_S_back_57 : decode prog_1_method_14_code 57 = .ok (.iload_n 2, 1) := by decide +kernel
theorem d_S_back_58 : decode prog_1_method_14_code 58 = .ok (.ifCond .eq 7, 3) := by decide +kernel
theorem d_S_back_61 : decode prog_1_method_14_code 61 = .ok (.iconst 1, 1) := by decide +kernel
theorem d_S_back_62 : decode prog_1_method_14_code 62 = .ok (.goto 4, 3) := by decide +kernel
theorem d_S_back_65 : decode prog_1_method_14_code 65 = .ok (.iconst 0, 1) := by decide +kernel
theorem d_S_back_66 : decode prog_1_method_14_code 66 = .ok (.ireturn, 1) := by decide +kernel
theorem d_S_ring_0 : decode prog_1_method_15_code 0 = .ok (.aload_n 0, 1) := by decide +kernel
theorem d_S_ring_1 : decode prog_1_method_15_code 1 = .ok (.getfield 14, 3) := by decide +kernel
theorem d_S_ring_4 : decode prog_1_method_15_code 4 = .ok (.iload_n 1, 1) := by decide +kernel
theorem d_S_ring_5 : decode prog_1_method_15_code 5 = .ok (.invokevirtual 99, 3) := by decide +kernel
theorem d_S_ring_8 : decode prog_1_method_15_code 8 = .ok (.ifCond .ne 5, 3) := by decide +kernel
theorem d_S_ring_11 : decode prog_1_method_15_code 11 = .ok (.iconst (-1), 1) := by decide +kernel
theorem d_S_ring_12 : decode prog_1_method_15_code 12 = .ok (.ireturn, 1) := by decide +kernel
theorem d_S_ring_13 : decode prog_1_method_15_code 13 = .ok (.aload_n 0, 1) := by decide +kernel
theorem d_S_ring_14 : decode prog_1_method_15_code 14 = .ok (.getfield 24, 3) := by decide +kernel
theorem d_S_ring_17 : decode prog_1_method_15_code 17 = .ok (.getfield 113, 3) := by decide +kernel
theorem d_S_ring_20 : decode prog_1_method_15_code 20 = .ok (.aload_n 0, 1) := by decide +kernel
theorem d_S_ring_21 : decode prog_1_method_15_code 21 = .ok (.getfield 14, 3) := by decide +kernel
theorem d_S_ring_24 : decode prog_1_method_15_code 24 = .ok (.invokevirtual 117, 3) := by decide +kernel
theorem d_S_ring_27 : decode prog_1_method_15_code 27 = .ok (.aload_n 0, 1) := by decide +kernel
theorem d_S_ring_28 : decode prog_1_method_15_code 28 = .ok (.getfield 24, 3) := by decide +kernel
theorem d_S_ring_31 : decode prog_1_method_15_code 31 = .ok (.getfield 113, 3) := by decide +kernel
theorem d_S_ring_34 : decode prog_1_method_15_code 34 = .ok (.iload_n 1, 1) := by decide +kernel
theorem d_S_ring_35 : decode prog_1_method_15_code 35 = .ok (.invokevirtual 122, 3) := by decide +kernel
theorem d_S_ring_38 : decode prog_1_method_15_code 38 = .ok (.ireturn, 1) := by decide +kernel
theorem d_S_symbol_0 : decode prog_1_method_16_code 0 = .ok (.aload_n 0, 1) := by decide +kernel
theorem d_S_symbol_1 : decode prog_1_method_16_code 1 = .ok (.invokevirtual 125, 3) := by decide +kernel
theorem d_S_symbol_4 : decode prog_1_method_16_code 4 = .ok (.aload_n 0, 1) := by decide +kernel
theorem d_S_symbol_5 : decode prog_1_method_16_code 5 = .ok (.getfield 24, 3) := by decide +kernel
theorem d_S_symbol_8 : decode prog_1_method_16_code 8 = .ok (.getfield 128, 3) := by decide +kernel
theorem d_S_symbol_11 : decode prog_1_method_16_code 11 = .ok (.iload_n 1, 1) := by decide +kernel
theorem d_S_symbol_12 : decode prog_1_method_16_code 12 = .ok (.invokevirtual 132, 3) := by decide +kernel
theorem d_S_symbol_15 : decode prog_1_method_16_code 15 = .ok (.ireturn, 1) := by decide +kernel
theorem d_S_code_0 : decode prog_1_method_17_code 0 = .ok (.aload_n 0, 1) := by decide +kernel
theorem d_S_code_1 : decode prog_1_method_17_code 1 = .ok (.invokevirtual 125, 3) := by decide +kernel
theorem d_S_code_4 : decode prog_1_method_17_code 4 = .ok (.aload_n 0, 1) := by decide +kernel
theorem d_S_code_5 : decode prog_1_method_17_code 5 = .ok (.getfield 24, 3) := by decide +kernel
theorem d_S_code_8 : decode prog_1_method_17_code 8 = .ok (.getfield 135, 3) := by decide +kernel
theorem d_S_code_11 : decode prog_1_method_17_code 11 = .ok (.astore_n 3, 1) := by decide +kernel
theorem d_S_code_12 : decode prog_1_method_17_code 12 = .ok (.aload_n 3, 1) := by decide +kernel
theorem d_S_code_13 : decode prog_1_method_17_code 13 = .ok (.iload_n 1, 1) := by decide +kernel
theorem d_S_code_14 : decode prog_1_method_17_code 14 = .ok (.invokevirtual 139, 3) := by decide +kernel
theorem d_S_code_17 : decode prog_1_method_17_code 17 = .ok (.ifCond .eq 12, 3) := by decide +kernel
theorem d_S_code_20 : decode prog_1_method_17_code 20 = .ok (.iload_n 2, 1) := by decide +kernel
theorem d_S_code_21 : decode prog_1_method_17_code 21 = .ok (.ifCond .lt 8, 3) := by decide +kernel
theorem d_S_code_24 : decode prog_1_method_17_code 24 = .ok (.iload_n 2, 1) := by decide +kernel
theorem d_S_code_25 : decode prog_1_method_17_code 25 = .ok (.iconst 1, 1) := by decide +kernel
theorem d_S_code_26 : decode prog_1_method_17_code 26 = .ok (.if_icmp .le 5, 3) := by decide +kernel
theorem d_S_code_29 : decode prog_1_method_17_code 29 = .ok (.iconst (-1), 1) := by decide +kernel
theorem d_S_code_30 : decode prog_1_method_17_code 30 = .ok (.ireturn, 1) := by decide +kernel
theorem d_S_code_31 : decode prog_1_method_17_code 31 = .ok (.iload_n 2, 1) := by decide +kernel
theorem d_S_code_32 : decode prog_1_method_17_code 32 = .ok (.ifCond .ne 11, 3) := by decide +kernel
theorem d_S_code_35 : decode prog_1_method_17_code 35 = .ok (.aload_n 3, 1) := by decide +kernel
theorem d_S_code_36 : decode prog_1_method_17_code 36 = .ok (.iload_n 1, 1) := by decide +kernel
theorem d_S_code_37 : decode prog_1_method_17_code 37 = .ok (.invokevirtual 142, 3) := by decide +kernel
theorem d_S_code_40 : decode prog_1_method_17_code 40 = .ok (.goto 8, 3) := by decide +kernel
theorem d_S_code_43 : decode prog_1_method_17_code 43 = .ok (.aload_n 3, 1) := by decide +kernel
theorem d_S_code_44 : decode prog_1_method_17_code 44 = .ok (.iload_n 1, 1) := by decide +kernel
theorem d_S_code_45 : decode prog_1_method_17_code 45 = .ok (.invokevirtual 145, 3) := by decide +kernel
theorem d_S_code_48 : decode prog_1_method_17_code 48 = .ok (.ireturn, 1) := by decide +kernel
theorem d_S_bits_0 : decode prog_1_method_18_code 0 = .ok (.aload_n 0, 1) := by decide +kernel
theorem d_S_bits_1 : decode prog_1_method_18_code 1 = .ok (.invokevirtual 125, 3) := by decide +kernel
theorem d_S_bits_4 : decode prog_1_method_18_code 4 = .ok (.iconst 0, 1) := by decide +kernel
theorem d_S_bits_5 : decode prog_1_method_18_code 5 = .ok (.istore_n 1, 1) := by decide +kernel
theorem d_S_bits_6 : decode prog_1_method_18_code 6 = .ok (.iconst 0, 1) := by decide +kernel
theorem d_S_bits_7 : decode prog_1_method_18_code 7 = .ok (.istore_n 2, 1) := by decide +kernel
theorem d_S_bits_8 : decode prog_1_method_18_code 8 = .ok (.iload_n 2, 1) := by decide +kernel
theorem d_S_bits_9 : decode prog_1_method_18_code 9 = .ok (.aload_n 0, 1) := by decide +kernel
theorem d_S_bits_10 : decode prog_1_method_18_code 10 = .ok (.getfield 24, 3) := by decide +kernel
theorem d_S_bits_13 : decode prog_1_method_18_code 13 = .ok (.getfield 128, 3) := by decide +kernel
theorem d_S_bits_16 : decode prog_1_method_18_code 16 = .ok (.getfield 148, 3) := by decide +kernel
theorem d_S_bits_19 : decode prog_1_method_18_code 19 = .ok (.if_icmp .ge 33, 3) := by decide +kernel
theorem d_S_bits_22 : decode prog_1_method_18_code 22 = .ok (.iload_n 1, 1) := by decide +kernel
theorem d_S_bits_23 : decode prog_1_method_18_code 23 = .ok (.aload_n 0, 1) := by decide +kernel
theorem d_S_bits_24 : decode prog_1_method_18_code 24 = .ok (.getfield 24, 3) := by decide +kernel
theorem d_S_bits_27 : decode prog_1_method_18_code 27 = .ok (.getfield 135, 3) := by decide +kernel
theorem d_S_bits_30 : decode prog_1_method_18_code 30 = .ok (.aload_n 0, 1) := by decide +kernel
theorem d_S_bits_31 : decode prog_1_method_18_code 31 = .ok (.getfield 24, 3) := by decide +kernel
theorem d_S_bits_34 : decode prog_1_method_18_code 34 = .ok (.getfield 128, 3) := by decide +kernel
theorem d_S_bits_37 : decode prog_1_method_18_code 37 = .ok (.iload_n 2, 1) := by decide +kernel
theorem d_S_bits_38 : decode prog_1_method_18_code 38 = .ok (.invokevirtual 132, 3) := by decide +kernel
theorem d_S_bits_41 : decode prog_1_method_18_code 41 = .ok (.invokevirtual 142, 3) := by decide +kernel
theorem d_S_bits_44 : decode prog_1_method_18_code 44 = .ok (.iadd, 1) := by decide +kernel
theorem d_S_bits_45 : decode prog_1_method_18_code 45 = .ok (.istore_n 1, 1) := by decide +kernel
theorem d_S_bits_46 : decode prog_1_method_18_code 46 = .ok (.iinc 2 1, 3) := by decide +kernel
theorem d_S_bits_49 : decode prog_1_method_18_code 49 = .ok (.goto (-41), 3) := by decide +kernel
theorem d_S_bits_52 : decode prog_1_method_18_code 52 = .ok (.iload_n 1, 1) := by decide +kernel
theorem d_S_bits_53 : decode prog_1_method_18_code 53 = .ok (.ireturn, 1) := by decide +kernel
theorem d_S_write_0 : decode prog_1_method_19_code 0 = .ok (.aload_n 0, 1) := by decide +kernel
theorem d_S_write_1 : decode prog_1_method_19_code 1 = .ok (.invokevirtual 71, 3) := by decide +kernel
theorem d_S_write_4 : decode prog_1_method_19_code 4 = .ok (.aload_n 0, 1) := by decide +kernel
theorem d_S_write_5 : decode prog_1_method_19_code 5 = .ok (.getfield 31, 3) := by decide +kernel
theorem d_S_write_8 : decode prog_1_method_19_code 8 = .ok (.aload_n 0, 1) := by decide +kernel
theorem d_S_write_9 : decode prog_1_method_19_code 9 = .ok (.getfield 18, 3) := by decide +kernel
theorem d_S_write_12 : decode prog_1_method_19_code 12 = .ok (.aload_n 0, 1) := by decide +kernel
theorem d_S_write_13 : decode prog_1_method_19_code 13 = .ok (.getfield 14, 3) := by decide +kernel
theorem d_S_write_16 : decode prog_1_method_19_code 16 = .ok (.invokestatic 151, 3) := by decide +kernel
theorem d_S_write_19 : decode prog_1_method_19_code 19 = .ok (.aload_n 0, 1) := by decide +kernel
theorem d_S_write_20 : decode prog_1_method_19_code 20 = .ok (.getfield 24, 3) := by decide +kernel
theorem d_S_write_23 : decode prog_1_method_19_code 23 = .ok (.invokevirtual 155, 3) := by decide +kernel
theorem d_S_write_26 : decode prog_1_method_19_code 26 = .ok (.aload_n 0, 1) := by decide +kernel
theorem d_S_write_27 : decode prog_1_method_19_code 27 = .ok (.invokevirtual 159, 3) := by decide +kernel
theorem d_S_write_30 : decode prog_1_method_19_code 30 = .ok (.aload_n 0, 1) := by decide +kernel
theorem d_S_write_31 : decode prog_1_method_19_code 31 = .ok (.getfield 31, 3) := by decide +kernel
theorem d_S_write_34 : decode prog_1_method_19_code 34 = .ok (.getfield 162, 3) := by decide +kernel
theorem d_S_write_37 : decode prog_1_method_19_code 37 = .ok (.getfield 60, 3) := by decide +kernel
theorem d_S_write_40 : decode prog_1_method_19_code 40 = .ok (.ireturn, 1) := by decide +kernel
theorem d_S_out_0 : decode prog_1_method_20_code 0 = .ok (.aload_n 0, 1) := by decide +kernel
theorem d_S_out_1 : decode prog_1_method_20_code 1 = .ok (.getfield 31, 3) := by decide +kernel
theorem d_S_out_4 : decode prog_1_method_20_code 4 = .ok (.getfield 162, 3) := by decide +kernel
theorem d_S_out_7 : decode prog_1_method_20_code 7 = .ok (.iload_n 1, 1) := by decide +kernel
theorem d_S_out_8 : decode prog_1_method_20_code 8 = .ok (.invokevirtual 67, 3) := by decide +kernel
theorem d_S_out_11 : decode prog_1_method_20_code 11 = .ok (.ireturn, 1) := by decide +kernel
theorem d_S_tape_0 : decode prog_1_method_21_code 0 = .ok (.aload_n 0, 1) := by decide +kernel
theorem d_S_tape_1 : decode prog_1_method_21_code 1 = .ok (.getfield 38, 3) := by decide +kernel
theorem d_S_tape_4 : decode prog_1_method_21_code 4 = .ok (.getfield 165, 3) := by decide +kernel
theorem d_S_tape_7 : decode prog_1_method_21_code 7 = .ok (.lload_n 1, 1) := by decide +kernel
theorem d_S_tape_8 : decode prog_1_method_21_code 8 = .ok (.iload_n 3, 1) := by decide +kernel
theorem d_S_tape_9 : decode prog_1_method_21_code 9 = .ok (.invokestatic 42, 3) := by decide +kernel
theorem d_S_tape_12 : decode prog_1_method_21_code 12 = .ok (.ireturn, 1) := by decide +kernel
theorem d_S_take_0 : decode prog_1_method_22_code 0 = .ok (.aload_n 0, 1) := by decide +kernel
theorem d_S_take_1 : decode prog_1_method_22_code 1 = .ok (.getfield 38, 3) := by decide +kernel
theorem d_S_take_4 : decode prog_1_method_22_code 4 = .ok (.getfield 165, 3) := by decide +kernel
theorem d_S_take_7 : decode prog_1_method_22_code 7 = .ok (.aload_n 0, 1) := by decide +kernel
theorem d_S_take_8 : decode prog_1_method_22_code 8 = .ok (.getfield 31, 3) := by decide +kernel
theorem d_S_take_11 : decode prog_1_method_22_code 11 = .ok (.getfield 162, 3) := by decide +kernel
theorem d_S_take_14 : decode prog_1_method_22_code 14 = .ok (.invokevirtual 109, 3) := by decide +kernel
theorem d_S_take_17 : decode prog_1_method_22_code 17 = .ok (.aload_n 0, 1) := by decide +kernel
theorem d_S_take_18 : decode prog_1_method_22_code 18 = .ok (.getfield 38, 3) := by decide +kernel
theorem d_S_take_21 : decode prog_1_method_22_code 21 = .ok (.getfield 165, 3) := by decide +kernel
theorem d_S_take_24 : decode prog_1_method_22_code 24 = .ok (.getfield 60, 3) := by decide +kernel
theorem d_S_take_27 : decode prog_1_method_22_code 27 = .ok (.ireturn, 1) := by decide +kernel
theorem d_S_spoil_0 : decode prog_1_method_23_code 0 = .ok (.aload_n 0, 1) := by decide +kernel
theorem d_S_spoil_1 : decode prog_1_method_23_code 1 = .ok (.getfield 38, 3) := by decide +kernel
theorem d_S_spoil_4 : decode prog_1_method_23_code 4 = .ok (.getfield 165, 3) := by decide +kernel
theorem d_S_spoil_7 : decode prog_1_method_23_code 7 = .ok (.iload_n 1, 1) := by decide +kernel
theorem d_S_spoil_8 : decode prog_1_method_23_code 8 = .ok (.invokevirtual 99, 3) := by decide +kernel
theorem d_S_spoil_11 : decode prog_1_method_23_code 11 = .ok (.ifCond .eq 10, 3) := by decide +kernel
theorem d_S_spoil_14 : decode prog_1_method_23_code 14 = .ok (.iload_n 2, 1) := by decide +kernel
theorem d_S_spoil_15 : decode prog_1_method_23_code 15 = .ok (.invokestatic 49, 3) := by decide +kernel
theorem d_S_spoil_18 : decode prog_1_method_23_code 18 = .ok (.ifCond .ne 5, 3) := by decide +kernel
theorem d_S_spoil_21 : decode prog_1_method_23_code 21 = .ok (.iconst (-1), 1) := by decide +kernel
theorem d_S_spoil_22 : decode prog_1_method_23_code 22 = .ok (.ireturn, 1) := by decide +kernel
theorem d_S_spoil_23 : decode prog_1_method_23_code 23 = .ok (.aload_n 0, 1) := by decide +kernel
theorem d_S_spoil_24 : decode prog_1_method_23_code 24 = .ok (.getfield 38, 3) := by decide +kernel
theorem d_S_spoil_27 : decode prog_1_method_23_code 27 = .ok (.getfield 165, 3) := by decide +kernel
theorem d_S_spoil_30 : decode prog_1_method_23_code 30 = .ok (.iload_n 1, 1) := by decide +kernel
theorem d_S_spoil_31 : decode prog_1_method_23_code 31 = .ok (.iload_n 2, 1) := by decide +kernel
theorem d_S_spoil_32 : decode prog_1_method_23_code 32 = .ok (.invokevirtual 168, 3) := by decide +kernel
theorem d_S_spoil_35 : decode prog_1_method_23_code 35 = .ok (.aload_n 0, 1) := by decide +kernel
theorem d_S_spoil_36 : decode prog_1_method_23_code 36 = .ok (.getfield 38, 3) := by decide +kernel
theorem d_S_spoil_39 : decode prog_1_method_23_code 39 = .ok (.getfield 165, 3) := by decide +kernel
theorem d_S_spoil_42 : decode prog_1_method_23_code 42 = .ok (.iload_n 1, 1) := by decide +kernel
theorem d_S_spoil_43 : decode prog_1_method_23_code 43 = .ok (.invokevirtual 67, 3) := by decide +kernel
theorem d_S_spoil_46 : decode prog_1_method_23_code 46 = .ok (.ireturn, 1) := by decide +kernel
theorem d_S_cut_0 : decode prog_1_method_24_code 0 = .ok (.aload_n 0, 1) := by decide +kernel
theorem d_S_cut_1 : decode prog_1_method_24_code 1 = .ok (.getfield 38, 3) := by decide +kernel
theorem d_S_cut_4 : decode prog_1_method_24_code 4 = .ok (.getfield 165, 3) := by decide +kernel
theorem d_S_cut_7 : decode prog_1_method_24_code 7 = .ok (.getfield 60, 3) := by decide +kernel
theorem d_S_cut_10 : decode prog_1_method_24_code 10 = .ok (.istore_n 2, 1) := by decide +kernel
theorem d_S_cut_11 : decode prog_1_method_24_code 11 = .ok (.iload_n 1, 1) := by decide +kernel
theorem d_S_cut_12 : decode prog_1_method_24_code 12 = .ok (.ifCond .lt 8, 3) := by decide +kernel
theorem d_S_cut_15 : decode prog_1_method_24_code 15 = .ok (.iload_n 1, 1) := by decide +kernel
theorem d_S_cut_16 : decode prog_1_method_24_code 16 = .ok (.iload_n 2, 1) := by decide +kernel
theorem d_S_cut_17 : decode prog_1_method_24_code 17 = .ok (.if_icmp .le 5, 3) := by decide +kernel
theorem d_S_cut_20 : decode prog_1_method_24_code 20 = .ok (.iconst (-1), 1) := by decide +kernel
theorem d_S_cut_21 : decode prog_1_method_24_code 21 = .ok (.ireturn, 1) := by decide +kernel
theorem d_S_cut_22 : decode prog_1_method_24_code 22 = .ok (.aload_n 0, 1) := by decide +kernel
theorem d_S_cut_23 : decode prog_1_method_24_code 23 = .ok (.getfield 38, 3) := by decide +kernel
theorem d_S_cut_26 : decode prog_1_method_24_code 26 = .ok (.getfield 165, 3) := by decide +kernel
theorem d_S_cut_29 : decode prog_1_method_24_code 29 = .ok (.iload_n 1, 1) := by decide +kernel
theorem d_S_cut_30 : decode prog_1_method_24_code 30 = .ok (.invokevirtual 64, 3) := by decide +kernel
theorem d_S_cut_33 : decode prog_1_method_24_code 33 = .ok (.iload_n 2, 1) := by decide +kernel
theorem d_S_cut_34 : decode prog_1_method_24_code 34 = .ok (.ireturn, 1) := by decide +kernel
theorem d_S_read_0 : decode prog_1_method_25_code 0 = .ok (.aload_n 0, 1) := by decide +kernel
theorem d_S_read_1 : decode prog_1_method_25_code 1 = .ok (.getfield 38, 3) := by decide +kernel
theorem d_S_read_4 : decode prog_1_method_25_code 4 = .ok (.aload_n 0, 1) := by decide +kernel
theorem d_S_read_5 : decode prog_1_method_25_code 5 = .ok (.getfield 24, 3) := by decide +kernel
theorem d_S_read_8 : decode prog_1_method_25_code 8 = .ok (.invokevirtual 171, 3) := by decide +kernel
theorem d_S_read_11 : decode prog_1_method_25_code 11 = .ok (.istore_n 1, 1) := by decide +kernel
theorem d_S_read_12 : decode prog_1_method_25_code 12 = .ok (.aload_n 0, 1) := by decide +kernel
theorem d_S_read_13 : decode prog_1_method_25_code 13 = .ok (.invokevirtual 159, 3) := by decide +kernel
theorem d_S_read_16 : decode prog_1_method_25_code 16 = .ok (.aload_n 0, 1) := by decide +kernel
theorem d_S_read_17 : decode prog_1_method_25_code 17 = .ok (.getfield 38, 3) := by decide +kernel
theorem d_S_read_20 : decode prog_1_method_25_code 20 = .ok (.getfield 165, 3) := by decide +kernel
theorem d_S_read_23 : decode prog_1_method_25_code 23 = .ok (.iconst 0, 1) := by decide +kernel
theorem d_S_read_24 : decode prog_1_method_25_code 24 = .ok (.invokevirtual 64, 3) := by decide +kernel
theorem d_S_read_27 : decode prog_1_method_25_code 27 = .ok (.iload_n 1, 1) := by decide +kernel
theorem d_S_read_28 : decode prog_1_method_25_code 28 = .ok (.ifCond .ne 14, 3) := by decide +kernel
theorem d_S_read_31 : decode prog_1_method_25_code 31 = .ok (.bipush (-10), 2) := by decide +kernel
theorem d_S_read_33 : decode prog_1_method_25_code 33 = .ok (.aload_n 0, 1) := by decide +kernel
theorem d_S_read_34 : decode prog_1_method_25_code 34 = .ok (.getfield 38, 3) := by decide +kernel
theorem d_S_read_37 : decode prog_1_method_25_code 37 = .ok (.getfield 175, 3) := by decide +kernel
theorem d_S_read_40 : decode prog_1_method_25_code 40 = .ok (.isub, 1) := by decide +kernel
theorem d_S_read_41 : decode prog_1_method_25_code 41 = .ok (.ireturn, 1) := by decide +kernel
theorem d_S_read_42 : decode prog_1_method_25_code 42 = .ok (.aload_n 0, 1) := by decide +kernel
theorem d_S_read_43 : decode prog_1_method_25_code 43 = .ok (.getfield 14, 3) := by decide +kernel
theorem d_S_read_46 : decode prog_1_method_25_code 46 = .ok (.aload_n 0, 1) := by decide +kernel
theorem d_S_read_47 : decode prog_1_method_25_code 47 = .ok (.getfield 24, 3) := by decide +kernel
theorem d_S_read_50 : decode prog_1_method_25_code 50 = .ok (.getfield 178, 3) := by decide +kernel
theorem d_S_read_53 : decode prog_1_method_25_code 53 = .ok (.invokevirtual 109, 3) := by decide +kernel
theorem d_S_read_56 : decode prog_1_method_25_code 56 = .ok (.aload_n 0, 1) := by decide +kernel
theorem d_S_read_57 : decode prog_1_method_25_code 57 = .ok (.invokevirtual 46, 3) := by decide +kernel
theorem d_S_read_60 : decode prog_1_method_25_code 60 = .ok (.aload_n 0, 1) := by decide +kernel
theorem d_S_read_61 : decode prog_1_method_25_code 61 = .ok (.getfield 14, 3) := by decide +kernel
theorem d_S_read_64 : decode prog_1_method_25_code 64 = .ok (.getfield 60, 3) := by decide +kernel
theorem d_S_read_67 : decode prog_1_method_25_code 67 = .ok (.ireturn, 1) := by decide +kernel
theorem d_S_faultAt_0 : decode prog_1_method_26_code 0 = .ok (.aload_n 0, 1) := by decide +kernel
theorem d_S_faultAt_1 : decode prog_1_method_26_code 1 = .ok (.getfield 38, 3) := by decide +kernel
theorem d_S_faultAt_4 : decode prog_1_method_26_code 4 = .ok (.getfield 181, 3) := by decide +kernel
theorem d_S_faultAt_7 : decode prog_1_method_26_code 7 = .ok (.ireturn, 1) := by decide +kernel
theorem d_S_check_0 : decode prog_1_method_27_code 0 = .ok (.aload_n 0, 1) := by decide +kernel
theorem d_S_check_1 : decode prog_1_method_27_code 1 = .ok (.getfield 14, 3) := by decide +kernel
theorem d_S_check_4 : decode prog_1_method_27_code 4 = .ok (.invokestatic 151, 3) := by decide +kernel
theorem d_S_check_7 : decode prog_1_method_27_code 7 = .ok (.ireturn, 1) := by decide +kernel
theorem d_S_blockChanged_0 : decode prog_1_method_28_code 0 = .ok (.aload_n 0, 1) := by decide +kernel
theorem d_S_blockChanged_1 : decode prog_1_method_28_code 1 = .ok (.iconst 0, 1) := by decide +kernel
theorem d_S_blockChanged_2 : decode prog_1_method_28_code 2 = .ok (.putfield 184, 3) := by decide +kernel
theorem d_S_blockChanged_5 : decode prog_1_method_28_code 5 = .ok (.aload_n 0, 1) := by decide +kernel
theorem d_S_blockChanged_6 : decode prog_1_method_28_code 6 = .ok (.invokevirtual 159, 3) := by decide +kernel
theorem d_S_blockChanged_9 : decode prog_1_method_28_code 9 = .ok (.return_, 1) := by decide +kernel
theorem d_S_benchUsed_0 : decode prog_1_method_29_code 0 = .ok (.aload_n 0, 1) := by decide +kernel
theorem d_S_benchUsed_1 : decode prog_1_method_29_code 1 = .ok (.iconst 0, 1) := by decide +kernel
theorem d_S_benchUsed_2 : decode prog_1_method_29_code 2 = .ok (.putfield 188, 3) := by decide +kernel
theorem d_S_benchUsed_5 : decode prog_1_method_29_code 5 = .ok (.aload_n 0, 1) := by decide +kernel
theorem d_S_benchUsed_6 : decode prog_1_method_29_code 6 = .ok (.iconst 0, 1) := by decide +kernel
theorem d_S_benchUsed_7 : decode prog_1_method_29_code 7 = .ok (.putfield 191, 3) := by decide +kernel
theorem d_S_benchUsed_10 : decode prog_1_method_29_code 10 = .ok (.return_, 1) := by decide +kernel
theorem d_S_freshenPack_0 : decode prog_1_method_30_code 0 = .ok (.aload_n 0, 1) := by decide +kernel
theorem d_S_freshenPack_1 : decode prog_1_method_30_code 1 = .ok (.getfield 184, 3) := by decide +kernel
theorem d_S_freshenPack_4 : decode prog_1_method_30_code 4 = .ok (.ifCond .ne 19, 3) := by decide +kernel
theorem d_S_freshenPack_7 : decode prog_1_method_30_code 7 = .ok (.aload_n 0, 1) := by decide +kernel
theorem d_S_freshenPack_8 : decode prog_1_method_30_code 8 = .ok (.getfield 14, 3) := by decide +kernel
theorem d_S_freshenPack_11 : decode prog_1_method_30_code 11 = .ok (.aload_n 0, 1) := by decide +kernel
theorem d_S_freshenPack_12 : decode prog_1_method_30_code 12 = .ok (.getfield 18, 3) := by decide +kernel
theorem d_S_freshenPack_15 : decode prog_1_method_30_code 15 = .ok (.invokestatic 194, 3) := by decide +kernel
theorem d_S_freshenPack_18 : decode prog_1_method_30_code 18 = .ok (.aload_n 0, 1) := by decide +kernel
theorem d_S_freshenPack_19 : decode prog_1_method_30_code 19 = .ok (.iconst 1, 1) := by decide +kernel
theorem d_S_freshenPack_20 : decode prog_1_method_30_code 20 = .ok (.putfield 184, 3) := by decide +kernel
theorem d_S_freshenPack_23 : decode prog_1_method_30_code 23 = .ok (.return_, 1) := by decide +kernel
theorem d_S_freshenTurns_0 : decode prog_1_method_31_code 0 = .ok (.aload_n 0, 1) := by decide +kernel
theorem d_S_freshenTurns_1 : decode prog_1_method_31_code 1 = .ok (.getfield 188, 3) := by decide +kernel
theorem d_S_freshenTurns_4 : decode prog_1_method_31_code 4 = .ok (.ifCond .ne 22, 3) := by decide +kernel
theorem d_S_freshenTurns_7 : decode prog_1_method_31_code 7 = .ok (.aload_n 0, 1) := by decide +kernel
theorem d_S_freshenTurns_8 : decode prog_1_method_31_code 8 = .ok (.getfield 24, 3) := by decide +kernel
theorem d_S_freshenTurns_11 : decode prog_1_method_31_code 11 = .ok (.getfield 77, 3) := by decide +kernel
theorem d_S_freshenTurns_14 : decode prog_1_method_31_code 14 = .ok (.aload_n 0, 1) := by decide +kernel
theorem d_S_freshenTurns_15 : decode prog_1_method_31_code 15 = .ok (.getfield 14, 3) := by decide +kernel
theorem d_S_freshenTurns_18 : decode prog_1_method_31_code 18 = .ok (.invokevirtual 198, 3) := by decide +kernel
theorem d_S_freshenTurns_21 : decode prog_1_method_31_code 21 = .ok (.aload_n 0, 1) := by decide +kernel
theorem d_S_freshenTurns_22 : decode prog_1_method_31_code 22 = .ok (.iconst 1, 1) := by decide +kernel
theorem d_S_freshenTurns_23 : decode prog_1_method_31_code 23 = .ok (.putfield 188, 3) := by decide +kernel
theorem d_S_freshenTurns_26 : decode prog_1_method_31_code 26 = .ok (.return_, 1) := by decide +kernel
theorem d_S_freshenCodes_0 : decode prog_1_method_32_code 0 = .ok (.aload_n 0, 1) := by decide +kernel
theorem d_S_freshenCodes_1 : decode prog_1_method_32_code 1 = .ok (.getfield 191, 3) := by decide +kernel
theorem d_S_freshenCodes_4 : decode prog_1_method_32_code 4 = .ok (.ifCond .ne 39, 3) := by decide +kernel
theorem d_S_freshenCodes_7 : decode prog_1_method_32_code 7 = .ok (.aload_n 0, 1) := by decide +kernel
theorem d_S_freshenCodes_8 : decode prog_1_method_32_code 8 = .ok (.getfield 24, 3) := by decide +kernel
theorem d_S_freshenCodes_11 : decode prog_1_method_32_code 11 = .ok (.getfield 128, 3) := by decide +kernel
theorem d_S_freshenCodes_14 : decode prog_1_method_32_code 14 = .ok (.aload_n 0, 1) := by decide +kernel
theorem d_S_freshenCodes_15 : decode prog_1_method_32_code 15 = .ok (.getfield 14, 3) := by decide +kernel
theorem d_S_freshenCodes_18 : decode prog_1_method_32_code 18 = .ok (.invokevirtual 201, 3) := by decide +kernel
theorem d_S_freshenCodes_21 : decode prog_1_method_32_code 21 = .ok (.aload_n 0, 1) := by decide +kernel
theorem d_S_freshenCodes_22 : decode prog_1_method_32_code 22 = .ok (.getfield 24, 3) := by decide +kernel
theorem d_S_freshenCodes_25 : decode prog_1_method_32_code 25 = .ok (.getfield 135, 3) := by decide +kernel
theorem d_S_freshenCodes_28 : decode prog_1_method_32_code 28 = .ok (.aload_n 0, 1) := by decide +kernel
theorem d_S_freshenCodes_29 : decode prog_1_method_32_code 29 = .ok (.getfield 24, 3) := by decide +kernel
theorem d_S_freshenCodes_32 : decode prog_1_method_32_code 32 = .ok (.getfield 128, 3) := by decide +kernel
theorem d_S_freshenCodes_35 : decode prog_1_method_32_code 35 = .ok (.invokevirtual 204, 3) := by decide +kernel
theorem d_S_freshenCodes_38 : decode prog_1_method_32_code 38 = .ok (.aload_n 0, 1) := by decide +kernel
theorem d_S_freshenCodes_39 : decode prog_1_method_32_code 39 = .ok (.iconst 1, 1) := by decide +kernel
theorem d_S_freshenCodes_40 : decode prog_1_method_32_code 40 = .ok (.putfield 191, 3) := by decide +kernel
theorem d_S_freshenCodes_43 : decode prog_1_method_32_code 43 = .ok (.return_, 1) := by decide +kernel
theorem d_S_turnBegins_0 : decode prog_1_method_33_code 0 = .ok (.iload 4, 2) := by decide +kernel
theorem d_S_turnBegins_2 : decode prog_1_method_33_code 2 = .ok (.aload_n 0, 1) := by decide +kernel
theorem d_S_turnBegins_3 : decode prog_1_method_33_code 3 = .ok (.getfield 14, 3) := by decide +kernel
theorem d_S_turnBegins_6 : decode prog_1_method_33_code 6 = .ok (.getfield 60, 3) := by decide +kernel
theorem d_S_turnBegins_9 : decode prog_1_method_33_code 9 = .ok (.if_icmp .le 5, 3) := by decide +kernel
theorem d_S_turnBegins_12 : decode prog_1_method_33_code 12 = .ok (.iconst 0, 1) := by decide +kernel
theorem d_S_turnBegins_13 : decode prog_1_method_33_code 13 = .ok (.ireturn, 1) := by decide +kernel
theorem d_S_turnBegins_14 : decode prog_1_method_33_code 14 = .ok (.iconst 0, 1) := by decide +kernel
theorem d_S_turnBegins_15 : decode prog_1_method_33_code 15 = .ok (.istore 5, 2) := by decide +kernel
theorem d_S_turnBegins_17 : decode prog_1_method_33_code 17 = .ok (.iload 5, 2) := by decide +kernel
theorem d_S_turnBegins_19 : decode prog_1_method_33_code 19 = .ok (.iload 4, 2) := by decide +kernel
theorem d_S_turnBegins_21 : decode prog_1_method_33_code 21 = .ok (.if_icmp .ge 69, 3) := by decide +kernel
theorem d_S_turnBegins_24 : decode prog_1_method_33_code 24 = .ok (.iload_n 1, 1) := by decide +kernel
theorem d_S_turnBegins_25 : decode prog_1_method_33_code 25 = .ok (.iload 5, 2) := by decide +kernel
theorem d_S_turnBegins_27 : decode prog_1_method_33_code 27 = .ok (.iadd, 1) := by decide +kernel
theorem d_S_turnBegins_28 : decode prog_1_method_33_code 28 = .ok (.aload_n 0, 1) := by decide +kernel
theorem d_S_turnBegins_29 : decode prog_1_method_33_code 29 = .ok (.getfield 14, 3) := by decide +kernel
theorem d_S_turnBegins_32 : decode prog_1_method_33_code 32 = .ok (.getfield 60, 3) := by decide +kernel
theorem d_S_turnBegins_35 : decode prog_1_method_33_code 35 = .ok (.if_icmp .ge 10, 3) := by decide +kernel
theorem d_S_turnBegins_38 : decode prog_1_method_33_code 38 = .ok (.iload_n 1, 1) := by decide +kernel
theorem d_S_turnBegins_39 : decode prog_1_method_33_code 39 = .ok (.iload 5, 2) := by decide +kernel
theorem d_S_turnBegins_41 : decode prog_1_method_33_code 41 = .ok (.iadd, 1) := by decide +kernel
theorem d_S_turnBegins_42 : decode prog_1_method_33_code 42 = .ok (.goto 15, 3) := by decide +kernel
theorem d_S_turnBegins_45 : decode prog_1_method_33_code 45 = .ok (.iload_n 1, 1) := by decide +kernel
theorem d_S_turnBegins_46 : decode prog_1_method_33_code 46 = .ok (.iload 5, 2) := by decide +kernel
theorem d_S_turnBegins_48 : decode prog_1_method_33_code 48 = .ok (.iadd, 1) := by decide +kernel
theorem d_S_turnBegins_49 : decode prog_1_method_33_code 49 = .ok (.aload_n 0, 1) := by decide +kernel
theorem d_S_turnBegins_50 : decode prog_1_method_33_code 50 = .ok (.getfield 14, 3) := by decide +kernel
theorem d_S_turnBegins_53 : decode prog_1_method_33_code 53 = .ok (.getfield 60, 3) := by decide +kernel
theorem d_S_turnBegins_56 : decode prog_1_method_33_code 56 = .ok (.isub, 1) := by decide +kernel
theorem d_S_turnBegins_57 : decode prog_1_method_33_code 57 = .ok (.istore 6, 2) := by decide +kernel
theorem d_S_turnBegins_59 : decode prog_1_method_33_code 59 = .ok (.aload_n 0, 1) := by decide +kernel
theorem d_S_turnBegins_60 : decode prog_1_method_33_code 60 = .ok (.getfield 14, 3) := by decide +kernel
theorem d_S_turnBegins_63 : decode prog_1_method_33_code 63 = .ok (.iload 6, 2) := by decide +kernel
theorem d_S_turnBegins_65 : decode prog_1_method_33_code 65 = .ok (.invokevirtual 67, 3) := by decide +kernel
theorem d_S_turnBegins_68 : decode prog_1_method_33_code 68 = .ok (.lload_n 2, 1) := by decide +kernel
theorem d_S_turnBegins_69 : decode prog_1_method_33_code 69 = .ok (.iload 4, 2) := by decide +kernel
theorem d_S_turnBegins_71 : decode prog_1_method_33_code 71 = .ok (.iconst 1, 1) := by decide +kernel
theorem d_S_turnBegins_72 : decode prog_1_method_33_code 72 = .ok (.isub, 1) := by decide +kernel
theorem d_S_turnBegins_73 : decode prog_1_method_33_code 73 = .ok (.iload 5, 2) := by decide +kernel
theorem d_S_turnBegins_75 : decode prog_1_method_33_code 75 = .ok (.isub, 1) := by decide +kernel
theorem d_S_turnBegins_76 : decode prog_1_method_33_code 76 = .ok (.invokestatic 207, 3) := by decide +kernel
theorem d_S_turnBegins_79 : decode prog_1_method_33_code 79 = .ok (.if_icmp .eq 5, 3) := by decide +kernel
theorem d_S_turnBegins_82 : decode prog_1_method_33_code 82 = .ok (.iconst 0, 1) := by decide +kernel
theorem d_S_turnBegins_83 : decode prog_1_method_33_code 83 = .ok (.ireturn, 1) := by decide +kernel
theorem d_S_turnBegins_84 : decode prog_1_method_33_code 84 = .ok (.iinc 5 1, 3) := by decide +kernel
theorem d_S_turnBegins_87 : decode prog_1_method_33_code 87 = .ok (.goto (-70), 3) := by decide +kernel
theorem d_S_turnBegins_90 : decode prog_1_method_33_code 90 = .ok (.iconst 1, 1) := by decide +kernel
theorem d_S_turnBegins_91 : decode prog_1_method_33_code 91 = .ok (.ireturn, 1) := by decide +kernel
theorem d_S_addLowest_0 : decode prog_1_method_34_code 0 = .ok (.iload_n 3, 1) := by decide +kernel
theorem d_S_addLowest_1 : decode prog_1_method_34_code 1 = .ok (.iconst 1, 1) := by decide +kernel
theorem d_S_addLowest_2 : decode prog_1_method_34_code 2 = .ok (.if_icmp .lt 9, 3) := by decide +kernel
theorem d_S_addLowest_5 : decode prog_1_method_34_code 5 = .ok (.iload_n 3, 1) := by decide +kernel
theorem d_S_addLowest_6 : decode prog_1_method_34_code 6 = .ok (.bipush 8, 2) := by decide +kernel
theorem d_S_addLowest_8 : decode prog_1_method_34_code 8 = .ok (.if_icmp .le 5, 3) := by decide +kernel
theorem d_S_addLowest_11 : decode prog_1_method_34_code 11 = .ok (.iconst (-1), 1) := by decide +kernel
theorem d_S_addLowest_12 : decode prog_1_method_34_code 12 = .ok (.ireturn, 1) := by decide +kernel
theorem d_S_addLowest_13 : decode prog_1_method_34_code 13 = .ok (.aload_n 0, 1) := by decide +kernel
theorem d_S_addLowest_14 : decode prog_1_method_34_code 14 = .ok (.iload_n 3, 1) := by decide +kernel
theorem d_S_addLowest_15 : decode prog_1_method_34_code 15 = .ok (.invokevirtual 53, 3) := by decide +kernel
theorem d_S_addLowest_18 : decode prog_1_method_34_code 18 = .ok (.ifCond .ne 6, 3) := by decide +kernel
theorem d_S_addLowest_21 : decode prog_1_method_34_code 21 = .ok (.bipush (-3), 2) := by decide +kernel
theorem d_S_addLowest_23 : decode prog_1_method_34_code 23 = .ok (.ireturn, 1) := by decide +kernel
theorem d_S_addLowest_24 : decode prog_1_method_34_code 24 = .ok (.iconst 0, 1) := by decide +kernel
theorem d_S_addLowest_25 : decode prog_1_method_34_code 25 = .ok (.istore 4, 2) := by decide +kernel
theorem d_S_addLowest_27 : decode prog_1_method_34_code 27 = .ok (.iload 4, 2) := by decide +kernel
theorem d_S_addLowest_29 : decode prog_1_method_34_code 29 = .ok (.iload_n 3, 1) := by decide +kernel
theorem d_S_addLowest_30 : decode prog_1_method_34_code 30 = .ok (.if_icmp .ge 19, 3) := by decide +kernel
theorem d_S_addLowest_33 : decode prog_1_method_34_code 33 = .ok (.aload_n 0, 1) := by decide +kernel
theorem d_S_addLowest_34 : decode prog_1_method_34_code 34 = .ok (.lload_n 1, 1) := by decide +kernel
theorem d_S_addLowest_35 : decode prog_1_method_34_code 35 = .ok (.iload 4, 2) := by decide +kernel
theorem d_S_addLowest_37 : decode prog_1_method_34_code 37 = .ok (.invokestatic 207, 3) := by decide +kernel
theorem d_S_addLowest_40 : decode prog_1_method_34_code 40 = .ok (.invokevirtual 211, 3) := by decide +kernel
theorem d_S_addLowest_43 : decode prog_1_method_34_code 43 = .ok (.iinc 4 1, 3) := by decide +kernel
theorem d_S_addLowest_46 : decode prog_1_method_34_code 46 = .ok (.goto (-19), 3) := by decide +kernel
theorem d_S_addLowest_49 : decode prog_1_method_34_code 49 = .ok (.aload_n 0, 1) := by decide +kernel
theorem d_S_addLowest_50 : decode prog_1_method_34_code 50 = .ok (.getfield 60, 3) := by decide +kernel
theorem d_S_addLowest_53 : decode prog_1_method_34_code 53 = .ok (.ireturn, 1) := by decide +kernel

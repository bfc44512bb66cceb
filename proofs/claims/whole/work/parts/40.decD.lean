theorem dX8_init_0 : decode cX8_init 0 = .ok (.aload_n 0, 1) := by decide +kernel
theorem dX8_init_1 : decode cX8_init 1 = .ok (.invokespecial 1, 3) := by decide +kernel
theorem dX8_init_4 : decode cX8_init 4 = .ok (.aload_n 0, 1) := by decide +kernel
theorem dX8_init_5 : decode cX8_init 5 = .ok (.bipush 32, 2) := by decide +kernel
theorem dX8_init_7 : decode cX8_init 7 = .ok (.newarray .int, 2) := by decide +kernel
theorem dX8_init_9 : decode cX8_init 9 = .ok (.putfield 9, 3) := by decide +kernel
theorem dX8_init_12 : decode cX8_init 12 = .ok (.aload_n 0, 1) := by decide +kernel
theorem dX8_init_13 : decode cX8_init 13 = .ok (.bipush 32, 2) := by decide +kernel
theorem dX8_init_15 : decode cX8_init 15 = .ok (.newarray .long, 2) := by decide +kernel
theorem dX8_init_17 : decode cX8_init 17 = .ok (.putfield 13, 3) := by decide +kernel
theorem dX8_init_20 : decode cX8_init 20 = .ok (.iconst 0, 1) := by decide +kernel
theorem dX8_init_21 : decode cX8_init 21 = .ok (.istore_n 1, 1) := by decide +kernel
theorem dX8_init_22 : decode cX8_init 22 = .ok (.iload_n 1, 1) := by decide +kernel
theorem dX8_init_23 : decode cX8_init 23 = .ok (.bipush 32, 2) := by decide +kernel
theorem dX8_init_25 : decode cX8_init 25 = .ok (.if_icmp .ge 17, 3) := by decide +kernel
theorem dX8_init_28 : decode cX8_init 28 = .ok (.aload_n 0, 1) := by decide +kernel
theorem dX8_init_29 : decode cX8_init 29 = .ok (.getfield 9, 3) := by decide +kernel
theorem dX8_init_32 : decode cX8_init 32 = .ok (.iload_n 1, 1) := by decide +kernel
theorem dX8_init_33 : decode cX8_init 33 = .ok (.bipush 32, 2) := by decide +kernel
theorem dX8_init_35 : decode cX8_init 35 = .ok (.iastore, 1) := by decide +kernel
theorem dX8_init_36 : decode cX8_init 36 = .ok (.iinc 1 1, 3) := by decide +kernel
theorem dX8_init_39 : decode cX8_init 39 = .ok (.goto (-17), 3) := by decide +kernel
theorem dX8_init_42 : decode cX8_init 42 = .ok (.aload_n 0, 1) := by decide +kernel
theorem dX8_init_43 : decode cX8_init 43 = .ok (.iconst 4, 1) := by decide +kernel
theorem dX8_init_44 : decode cX8_init 44 = .ok (.anewarray 17, 3) := by decide +kernel
theorem dX8_init_47 : decode cX8_init 47 = .ok (.putfield 19, 3) := by decide +kernel
theorem dX8_init_50 : decode cX8_init 50 = .ok (.iconst 0, 1) := by decide +kernel
theorem dX8_init_51 : decode cX8_init 51 = .ok (.istore_n 1, 1) := by decide +kernel
theorem dX8_init_52 : decode cX8_init 52 = .ok (.iload_n 1, 1) := by decide +kernel
theorem dX8_init_53 : decode cX8_init 53 = .ok (.iconst 4, 1) := by decide +kernel
theorem dX8_init_54 : decode cX8_init 54 = .ok (.if_icmp .ge 22, 3) := by decide +kernel
theorem dX8_init_57 : decode cX8_init 57 = .ok (.aload_n 0, 1) := by decide +kernel
theorem dX8_init_58 : decode cX8_init 58 = .ok (.getfield 19, 3) := by decide +kernel
theorem dX8_init_61 : decode cX8_init 61 = .ok (.iload_n 1, 1) := by decide +kernel
theorem dX8_init_62 : decode cX8_init 62 = .ok (.new 17, 3) := by decide +kernel
theorem dX8_init_65 : decode cX8_init 65 = .ok (.dup, 1) := by decide +kernel
theorem dX8_init_66 : decode cX8_init 66 = .ok (.invokespecial 23, 3) := by decide +kernel
theorem dX8_init_69 : decode cX8_init 69 = .ok (.aastore, 1) := by decide +kernel
theorem dX8_init_70 : decode cX8_init 70 = .ok (.iinc 1 1, 3) := by decide +kernel
theorem dX8_init_73 : decode cX8_init 73 = .ok (.goto (-21), 3) := by decide +kernel
theorem dX8_init_76 : decode cX8_init 76 = .ok (.aload_n 0, 1) := by decide +kernel
theorem dX8_init_77 : decode cX8_init 77 = .ok (.new 24, 3) := by decide +kernel
theorem dX8_init_80 : decode cX8_init 80 = .ok (.dup, 1) := by decide +kernel
theorem dX8_init_81 : decode cX8_init 81 = .ok (.invokespecial 26, 3) := by decide +kernel
theorem dX8_init_84 : decode cX8_init 84 = .ok (.putfield 27, 3) := by decide +kernel
theorem dX8_init_87 : decode cX8_init 87 = .ok (.aload_n 0, 1) := by decide +kernel
theorem dX8_init_88 : decode cX8_init 88 = .ok (.new 24, 3) := by decide +kernel
theorem dX8_init_91 : decode cX8_init 91 = .ok (.dup, 1) := by decide +kernel
theorem dX8_init_92 : decode cX8_init 92 = .ok (.invokespecial 26, 3) := by decide +kernel
theorem dX8_init_95 : decode cX8_init 95 = .ok (.putfield 31, 3) := by decide +kernel
theorem dX8_init_98 : decode cX8_init 98 = .ok (.aload_n 0, 1) := by decide +kernel
theorem dX8_init_99 : decode cX8_init 99 = .ok (.new 24, 3) := by decide +kernel
theorem dX8_init_102 : decode cX8_init 102 = .ok (.dup, 1) := by decide +kernel
theorem dX8_init_103 : decode cX8_init 103 = .ok (.invokespecial 26, 3) := by decide +kernel
theorem dX8_init_106 : decode cX8_init 106 = .ok (.putfield 34, 3) := by decide +kernel
theorem dX8_init_109 : decode cX8_init 109 = .ok (.aload_n 0, 1) := by decide +kernel
theorem dX8_init_110 : decode cX8_init 110 = .ok (.new 37, 3) := by decide +kernel
theorem dX8_init_113 : decode cX8_init 113 = .ok (.dup, 1) := by decide +kernel
theorem dX8_init_114 : decode cX8_init 114 = .ok (.invokespecial 39, 3) := by decide +kernel
theorem dX8_init_117 : decode cX8_init 117 = .ok (.putfield 40, 3) := by decide +kernel
theorem dX8_init_120 : decode cX8_init 120 = .ok (.aload_n 0, 1) := by decide +kernel
theorem dX8_init_121 : decode cX8_init 121 = .ok (.new 44, 3) := by decide +kernel
theorem dX8_init_124 : decode cX8_init 124 = .ok (.dup, 1) := by decide +kernel
theorem dX8_init_125 : decode cX8_init 125 = .ok (.invokespecial 46, 3) := by decide +kernel
theorem dX8_init_128 : decode cX8_init 128 = .ok (.putfield 47, 3) := by decide +kernel
theorem dX8_init_131 : decode cX8_init 131 = .ok (.aload_n 0, 1) := by decide +kernel
theorem dX8_init_132 : decode cX8_init 132 = .ok (.new 51, 3) := by decide +kernel
theorem dX8_init_135 : decode cX8_init 135 = .ok (.dup, 1) := by decide +kernel
theorem dX8_init_136 : decode cX8_init 136 = .ok (.invokespecial 53, 3) := by decide +kernel
theorem dX8_init_139 : decode cX8_init 139 = .ok (.putfield 54, 3) := by decide +kernel
theorem dX8_init_142 : decode cX8_init 142 = .ok (.return_, 1) := by decide +kernel
theorem dX8_set_0 : decode cX8_set 0 = .ok (.iload_n 1, 1) := by decide +kernel
theorem dX8_set_1 : decode cX8_set 1 = .ok (.invokestatic 58, 3) := by decide +kernel
theorem dX8_set_4 : decode cX8_set 4 = .ok (.iload_n 2, 1) := by decide +kernel
theorem dX8_set_5 : decode cX8_set 5 = .ok (.invokestatic 62, 3) := by decide +kernel
theorem dX8_set_8 : decode cX8_set 8 = .ok (.aload_n 0, 1) := by decide +kernel
theorem dX8_set_9 : decode cX8_set 9 = .ok (.getfield 9, 3) := by decide +kernel
theorem dX8_set_12 : decode cX8_set 12 = .ok (.iload_n 1, 1) := by decide +kernel
theorem dX8_set_13 : decode cX8_set 13 = .ok (.iload_n 2, 1) := by decide +kernel
theorem dX8_set_14 : decode cX8_set 14 = .ok (.iastore, 1) := by decide +kernel
theorem dX8_set_15 : decode cX8_set 15 = .ok (.aload_n 0, 1) := by decide +kernel
theorem dX8_set_16 : decode cX8_set 16 = .ok (.getfield 13, 3) := by decide +kernel
theorem dX8_set_19 : decode cX8_set 19 = .ok (.iload_n 1, 1) := by decide +kernel
theorem dX8_set_20 : decode cX8_set 20 = .ok (.iload_n 3, 1) := by decide +kernel
theorem dX8_set_21 : decode cX8_set 21 = .ok (.i2l, 1) := by decide +kernel
theorem dX8_set_22 : decode cX8_set 22 = .ok (.iload_n 2, 1) := by decide +kernel
theorem dX8_set_23 : decode cX8_set 23 = .ok (.invokestatic 65, 3) := by decide +kernel
theorem dX8_set_26 : decode cX8_set 26 = .ok (.land, 1) := by decide +kernel
theorem dX8_set_27 : decode cX8_set 27 = .ok (.lastore, 1) := by decide +kernel
theorem dX8_set_28 : decode cX8_set 28 = .ok (.return_, 1) := by decide +kernel
theorem dX8_pattern_0 : decode cX8_pattern 0 = .ok (.iload_n 1, 1) := by decide +kernel
theorem dX8_pattern_1 : decode cX8_pattern 1 = .ok (.invokestatic 58, 3) := by decide +kernel
theorem dX8_pattern_4 : decode cX8_pattern 4 = .ok (.aload_n 0, 1) := by decide +kernel
theorem dX8_pattern_5 : decode cX8_pattern 5 = .ok (.getfield 13, 3) := by decide +kernel
theorem dX8_pattern_8 : decode cX8_pattern 8 = .ok (.iload_n 1, 1) := by decide +kernel
theorem dX8_pattern_9 : decode cX8_pattern 9 = .ok (.laload, 1) := by decide +kernel
theorem dX8_pattern_10 : decode cX8_pattern 10 = .ok (.lreturn, 1) := by decide +kernel
theorem dX8_width_0 : decode cX8_width 0 = .ok (.iload_n 1, 1) := by decide +kernel
theorem dX8_width_1 : decode cX8_width 1 = .ok (.invokestatic 58, 3) := by decide +kernel
theorem dX8_width_4 : decode cX8_width 4 = .ok (.aload_n 0, 1) := by decide +kernel
theorem dX8_width_5 : decode cX8_width 5 = .ok (.getfield 9, 3) := by decide +kernel
theorem dX8_width_8 : decode cX8_width 8 = .ok (.iload_n 1, 1) := by decide +kernel
theorem dX8_width_9 : decode cX8_width 9 = .ok (.iaload, 1) := by decide +kernel
theorem dX8_width_10 : decode cX8_width 10 = .ok (.ireturn, 1) := by decide +kernel
theorem dX8_take_0 : decode cX8_take 0 = .ok (.iload_n 1, 1) := by decide +kernel
theorem dX8_take_1 : decode cX8_take 1 = .ok (.invokestatic 58, 3) := by decide +kernel
theorem dX8_take_4 : decode cX8_take 4 = .ok (.iload_n 2, 1) := by decide +kernel
theorem dX8_take_5 : decode cX8_take 5 = .ok (.invokestatic 58, 3) := by decide +kernel
theorem dX8_take_8 : decode cX8_take 8 = .ok (.iload_n 3, 1) := by decide +kernel
theorem dX8_take_9 : decode cX8_take 9 = .ok (.invokestatic 62, 3) := by decide +kernel
theorem dX8_take_12 : decode cX8_take 12 = .ok (.aload_n 0, 1) := by decide +kernel
theorem dX8_take_13 : decode cX8_take 13 = .ok (.getfield 27, 3) := by decide +kernel
theorem dX8_take_16 : decode cX8_take 16 = .ok (.aload_n 0, 1) := by decide +kernel
theorem dX8_take_17 : decode cX8_take 17 = .ok (.getfield 13, 3) := by decide +kernel
theorem dX8_take_20 : decode cX8_take 20 = .ok (.iload_n 1, 1) := by decide +kernel
theorem dX8_take_21 : decode cX8_take 21 = .ok (.laload, 1) := by decide +kernel
theorem dX8_take_22 : decode cX8_take 22 = .ok (.aload_n 0, 1) := by decide +kernel
theorem dX8_take_23 : decode cX8_take 23 = .ok (.getfield 9, 3) := by decide +kernel
theorem dX8_take_26 : decode cX8_take 26 = .ok (.iload_n 1, 1) := by decide +kernel
theorem dX8_take_27 : decode cX8_take 27 = .ok (.iaload, 1) := by decide +kernel
theorem dX8_take_28 : decode cX8_take 28 = .ok (.invokevirtual 71, 3) := by decide +kernel
theorem dX8_take_31 : decode cX8_take 31 = .ok (.aload_n 0, 1) := by decide +kernel
theorem dX8_take_32 : decode cX8_take 32 = .ok (.getfield 9, 3) := by decide +kernel
theorem dX8_take_35 : decode cX8_take 35 = .ok (.iload_n 2, 1) := by decide +kernel
theorem dX8_take_36 : decode cX8_take 36 = .ok (.iload_n 3, 1) := by decide +kernel
theorem dX8_take_37 : decode cX8_take 37 = .ok (.iastore, 1) := by decide +kernel
theorem dX8_take_38 : decode cX8_take 38 = .ok (.aload_n 0, 1) := by decide +kernel
theorem dX8_take_39 : decode cX8_take 39 = .ok (.getfield 13, 3) := by decide +kernel
theorem dX8_take_42 : decode cX8_take 42 = .ok (.iload_n 2, 1) := by decide +kernel
theorem dX8_take_43 : decode cX8_take 43 = .ok (.aload_n 0, 1) := by decide +kernel
theorem dX8_take_44 : decode cX8_take 44 = .ok (.getfield 40, 3) := by decide +kernel
theorem dX8_take_47 : decode cX8_take 47 = .ok (.aload_n 0, 1) := by decide +kernel
theorem dX8_take_48 : decode cX8_take 48 = .ok (.getfield 27, 3) := by decide +kernel
theorem dX8_take_51 : decode cX8_take 51 = .ok (.iload_n 3, 1) := by decide +kernel
theorem dX8_take_52 : decode cX8_take 52 = .ok (.invokevirtual 75, 3) := by decide +kernel
theorem dX8_take_55 : decode cX8_take 55 = .ok (.lastore, 1) := by decide +kernel
theorem dX8_take_56 : decode cX8_take 56 = .ok (.return_, 1) := by decide +kernel
theorem dX8_ratio_0 : decode cX8_ratio 0 = .ok (.iload_n 1, 1) := by decide +kernel
theorem dX8_ratio_1 : decode cX8_ratio 1 = .ok (.invokestatic 58, 3) := by decide +kernel
theorem dX8_ratio_4 : decode cX8_ratio 4 = .ok (.aload_n 0, 1) := by decide +kernel
theorem dX8_ratio_5 : decode cX8_ratio 5 = .ok (.getfield 13, 3) := by decide +kernel
theorem dX8_ratio_8 : decode cX8_ratio 8 = .ok (.iload_n 1, 1) := by decide +kernel
theorem dX8_ratio_9 : decode cX8_ratio 9 = .ok (.aload_n 0, 1) := by decide +kernel
theorem dX8_ratio_10 : decode cX8_ratio 10 = .ok (.getfield 40, 3) := by decide +kernel
theorem dX8_ratio_13 : decode cX8_ratio 13 = .ok (.lload_n 2, 1) := by decide +kernel
theorem dX8_ratio_14 : decode cX8_ratio 14 = .ok (.lload 4, 2) := by decide +kernel
theorem dX8_ratio_16 : decode cX8_ratio 16 = .ok (.aload_n 0, 1) := by decide +kernel
theorem dX8_ratio_17 : decode cX8_ratio 17 = .ok (.getfield 9, 3) := by decide +kernel
theorem dX8_ratio_20 : decode cX8_ratio 20 = .ok (.iload_n 1, 1) := by decide +kernel
theorem dX8_ratio_21 : decode cX8_ratio 21 = .ok (.iaload, 1) := by decide +kernel
theorem dX8_ratio_22 : decode cX8_ratio 22 = .ok (.invokevirtual 79, 3) := by decide +kernel
theorem dX8_ratio_25 : decode cX8_ratio 25 = .ok (.lastore, 1) := by decide +kernel
theorem dX8_ratio_26 : decode cX8_ratio 26 = .ok (.return_, 1) := by decide +kernel
theorem dX8_whole_0 : decode cX8_whole 0 = .ok (.iload_n 1, 1) := by decide +kernel
theorem dX8_whole_1 : decode cX8_whole 1 = .ok (.invokestatic 58, 3) := by decide +kernel
theorem dX8_whole_4 : decode cX8_whole 4 = .ok (.aload_n 0, 1) := by decide +kernel
theorem dX8_whole_5 : decode cX8_whole 5 = .ok (.getfield 27, 3) := by decide +kernel
theorem dX8_whole_8 : decode cX8_whole 8 = .ok (.aload_n 0, 1) := by decide +kernel
theorem dX8_whole_9 : decode cX8_whole 9 = .ok (.getfield 13, 3) := by decide +kernel
theorem dX8_whole_12 : decode cX8_whole 12 = .ok (.iload_n 1, 1) := by decide +kernel
theorem dX8_whole_13 : decode cX8_whole 13 = .ok (.laload, 1) := by decide +kernel
theorem dX8_whole_14 : decode cX8_whole 14 = .ok (.aload_n 0, 1) := by decide +kernel
theorem dX8_whole_15 : decode cX8_whole 15 = .ok (.getfield 9, 3) := by decide +kernel
theorem dX8_whole_18 : decode cX8_whole 18 = .ok (.iload_n 1, 1) := by decide +kernel
theorem dX8_whole_19 : decode cX8_whole 19 = .ok (.iaload, 1) := by decide +kernel
theorem dX8_whole_20 : decode cX8_whole 20 = .ok (.invokevirtual 71, 3) := by decide +kernel
theorem dX8_whole_23 : decode cX8_whole 23 = .ok (.aload_n 0, 1) := by decide +kernel
theorem dX8_whole_24 : decode cX8_whole 24 = .ok (.getfield 27, 3) := by decide +kernel
theorem dX8_whole_27 : decode cX8_whole 27 = .ok (.getfield 83, 3) := by decide +kernel
theorem dX8_whole_30 : decode cX8_whole 30 = .ok (.ifCond .ne 13, 3) := by decide +kernel
theorem dX8_whole_33 : decode cX8_whole 33 = .ok (.aload_n 0, 1) := by decide +kernel
theorem dX8_whole_34 : decode cX8_whole 34 = .ok (.getfield 27, 3) := by decide +kernel
theorem dX8_whole_37 : decode cX8_whole 37 = .ok (.invokevirtual 87, 3) := by decide +kernel
theorem dX8_whole_40 : decode cX8_whole 40 = .ok (.ifCond .eq 13, 3) := by decide +kernel
theorem dX8_whole_43 : decode cX8_whole 43 = .ok (.new 91, 3) := by decide +kernel
theorem dX8_whole_46 : decode cX8_whole 46 = .ok (.dup, 1) := by decide +kernel
theorem dX8_whole_47 : decode cX8_whole 47 = .ok (.ldc 93, 2) := by decide +kernel
theorem dX8_whole_49 : decode cX8_whole 49 = .ok (.invokespecial 95, 3) := by decide +kernel
theorem dX8_whole_52 : decode cX8_whole 52 = .ok (.athrow, 1) := by decide +kernel
theorem dX8_whole_53 : decode cX8_whole 53 = .ok (.aload_n 0, 1) := by decide +kernel
theorem dX8_whole_54 : decode cX8_whole 54 = .ok (.getfield 27, 3) := by decide +kernel
theorem dX8_whole_57 : decode cX8_whole 57 = .ok (.invokevirtual 98, 3) := by decide +kernel
theorem dX8_whole_60 : decode cX8_whole 60 = .ok (.lreturn, 1) := by decide +kernel
theorem dX8_order_0 : decode cX8_order 0 = .ok (.iload_n 1, 1) := by decide +kernel
theorem dX8_order_1 : decode cX8_order 1 = .ok (.invokestatic 58, 3) := by decide +kernel
theorem dX8_order_4 : decode cX8_order 4 = .ok (.iload_n 2, 1) := by decide +kernel
theorem dX8_order_5 : decode cX8_order 5 = .ok (.invokestatic 58, 3) := by decide +kernel
theorem dX8_order_8 : decode cX8_order 8 = .ok (.aload_n 0, 1) := by decide +kernel
theorem dX8_order_9 : decode cX8_order 9 = .ok (.iload_n 1, 1) := by decide +kernel
theorem dX8_order_10 : decode cX8_order 10 = .ok (.invokevirtual 102, 3) := by decide +kernel
theorem dX8_order_13 : decode cX8_order 13 = .ok (.aload_n 0, 1) := by decide +kernel
theorem dX8_order_14 : decode cX8_order 14 = .ok (.iload_n 2, 1) := by decide +kernel
theorem dX8_order_15 : decode cX8_order 15 = .ok (.invokevirtual 102, 3) := by decide +kernel
theorem dX8_order_18 : decode cX8_order 18 = .ok (.invokestatic 105, 3) := by decide +kernel
theorem dX8_order_21 : decode cX8_order 21 = .ok (.ireturn, 1) := by decide +kernel
theorem dX8_add_0 : decode cX8_add 0 = .ok (.aload_n 0, 1) := by decide +kernel
theorem dX8_add_1 : decode cX8_add 1 = .ok (.iload_n 1, 1) := by decide +kernel
theorem dX8_add_2 : decode cX8_add 2 = .ok (.iload_n 2, 1) := by decide +kernel
theorem dX8_add_3 : decode cX8_add 3 = .ok (.iload_n 3, 1) := by decide +kernel
theorem dX8_add_4 : decode cX8_add 4 = .ok (.invokevirtual 111, 3) := by decide +kernel
theorem dX8_add_7 : decode cX8_add 7 = .ok (.aload_n 0, 1) := by decide +kernel
theorem dX8_add_8 : decode cX8_add 8 = .ok (.getfield 13, 3) := by decide +kernel
theorem dX8_add_11 : decode cX8_add 11 = .ok (.iload_n 3, 1) := by decide +kernel
theorem dX8_add_12 : decode cX8_add 12 = .ok (.aload_n 0, 1) := by decide +kernel
theorem dX8_add_13 : decode cX8_add 13 = .ok (.getfield 40, 3) := by decide +kernel
theorem dX8_add_16 : decode cX8_add 16 = .ok (.aload_n 0, 1) := by decide +kernel
theorem dX8_add_17 : decode cX8_add 17 = .ok (.getfield 27, 3) := by decide +kernel
theorem dX8_add_20 : decode cX8_add 20 = .ok (.aload_n 0, 1) := by decide +kernel
theorem dX8_add_21 : decode cX8_add 21 = .ok (.getfield 31, 3) := by decide +kernel
theorem dX8_add_24 : decode cX8_add 24 = .ok (.iconst 0, 1) := by decide +kernel
theorem dX8_add_25 : decode cX8_add 25 = .ok (.aload_n 0, 1) := by decide +kernel
theorem dX8_add_26 : decode cX8_add 26 = .ok (.getfield 9, 3) := by decide +kernel
theorem dX8_add_29 : decode cX8_add 29 = .ok (.iload_n 3, 1) := by decide +kernel
theorem dX8_add_30 : decode cX8_add 30 = .ok (.iaload, 1) := by decide +kernel
theorem dX8_add_31 : decode cX8_add 31 = .ok (.invokevirtual 115, 3) := by decide +kernel
theorem dX8_add_34 : decode cX8_add 34 = .ok (.lastore, 1) := by decide +kernel
theorem dX8_add_35 : decode cX8_add 35 = .ok (.return_, 1) := by decide +kernel
theorem dX8_less_0 : decode cX8_less 0 = .ok (.aload_n 0, 1) := by decide +kernel
theorem dX8_less_1 : decode cX8_less 1 = .ok (.iload_n 1, 1) := by decide +kernel
theorem dX8_less_2 : decode cX8_less 2 = .ok (.iload_n 2, 1) := by decide +kernel
theorem dX8_less_3 : decode cX8_less 3 = .ok (.iload_n 3, 1) := by decide +kernel
theorem dX8_less_4 : decode cX8_less 4 = .ok (.invokevirtual 111, 3) := by decide +kernel
theorem dX8_less_7 : decode cX8_less 7 = .ok (.aload_n 0, 1) := by decide +kernel
theorem dX8_less_8 : decode cX8_less 8 = .ok (.getfield 13, 3) := by decide +kernel
theorem dX8_less_11 : decode cX8_less 11 = .ok (.iload_n 3, 1) := by decide +kernel
theorem dX8_less_12 : decode cX8_less 12 = .ok (.aload_n 0, 1) := by decide +kernel
theorem dX8_less_13 : decode cX8_less 13 = .ok (.getfield 40, 3) := by decide +kernel
theorem dX8_less_16 : decode cX8_less 16 = .ok (.aload_n 0, 1) := by decide +kernel
theorem dX8_less_17 : decode cX8_less 17 = .ok (.getfield 27, 3) := by decide +kernel
theorem dX8_less_20 : decode cX8_less 20 = .ok (.aload_n 0, 1) := by decide +kernel
theorem dX8_less_21 : decode cX8_less 21 = .ok (.getfield 31, 3) := by decide +kernel
theorem dX8_less_24 : decode cX8_less 24 = .ok (.iconst 1, 1) := by decide +kernel
theorem dX8_less_25 : decode cX8_less 25 = .ok (.aload_n 0, 1) := by decide +kernel
theorem dX8_less_26 : decode cX8_less 26 = .ok (.getfield 9, 3) := by decide +kernel
theorem dX8_less_29 : decode cX8_less 29 = .ok (.iload_n 3, 1) := by decide +kernel
theorem dX8_less_30 : decode cX8_less 30 = .ok (.iaload, 1) := by decide +kernel
theorem dX8_less_31 : decode cX8_less 31 = .ok (.invokevirtual 115, 3) := by decide +kernel
theorem dX8_less_34 : decode cX8_less 34 = .ok (.lastore, 1) := by decide +kernel
theorem dX8_less_35 : decode cX8_less 35 = .ok (.return_, 1) := by decide +kernel
theorem dX8_times_0 : decode cX8_times 0 = .ok (.aload_n 0, 1) := by decide +kernel
theorem dX8_times_1 : decode cX8_times 1 = .ok (.iload_n 1, 1) := by decide +kernel
theorem dX8_times_2 : decode cX8_times 2 = .ok (.iload_n 2, 1) := by decide +kernel
theorem dX8_times_3 : decode cX8_times 3 = .ok (.iload_n 3, 1) := by decide +kernel
theorem dX8_times_4 : decode cX8_times 4 = .ok (.invokevirtual 111, 3) := by decide +kernel
theorem dX8_times_7 : decode cX8_times 7 = .ok (.aload_n 0, 1) := by decide +kernel
theorem dX8_times_8 : decode cX8_times 8 = .ok (.getfield 13, 3) := by decide +kernel
theorem dX8_times_11 : decode cX8_times 11 = .ok (.iload_n 3, 1) := by decide +kernel
theorem dX8_times_12 : decode cX8_times 12 = .ok (.aload_n 0, 1) := by decide +kernel
theorem dX8_times_13 : decode cX8_times 13 = .ok (.getfield 40, 3) := by decide +kernel
theorem dX8_times_16 : decode cX8_times 16 = .ok (.aload_n 0, 1) := by decide +kernel
theorem dX8_times_17 : decode cX8_times 17 = .ok (.getfield 27, 3) := by decide +kernel
theorem dX8_times_20 : decode cX8_times 20 = .ok (.aload_n 0, 1) := by decide +kernel
theorem dX8_times_21 : decode cX8_times 21 = .ok (.getfield 31, 3) := by decide +kernel
theorem dX8_times_24 : decode cX8_times 24 = .ok (.aload_n 0, 1) := by decide +kernel
theorem dX8_times_25 : decode cX8_times 25 = .ok (.getfield 9, 3) := by decide +kernel
theorem dX8_times_28 : decode cX8_times 28 = .ok (.iload_n 3, 1) := by decide +kernel
theorem dX8_times_29 : decode cX8_times 29 = .ok (.iaload, 1) := by decide +kernel
theorem dX8_times_30 : decode cX8_times 30 = .ok (.invokevirtual 119, 3) := by decide +kernel
theorem dX8_times_33 : decode cX8_times 33 = .ok (.lastore, 1) := by decide +kernel
theorem dX8_times_34 : decode cX8_times 34 = .ok (.return_, 1) := by decide +kernel
theorem dX8_over_0 : decode cX8_over 0 = .ok (.aload_n 0, 1) := by decide +kernel
theorem dX8_over_1 : decode cX8_over 1 = .ok (.iload_n 1, 1) := by decide +kernel
theorem dX8_over_2 : decode cX8_over 2 = .ok (.iload_n 2, 1) := by decide +kernel
theorem dX8_over_3 : decode cX8_over 3 = .ok (.iload_n 3, 1) := by decide +kernel
theorem dX8_over_4 : decode cX8_over 4 = .ok (.invokevirtual 111, 3) := by decide +kernel
theorem dX8_over_7 : decode cX8_over 7 = .ok (.aload_n 0, 1) := by decide +kernel
theorem dX8_over_8 : decode cX8_over 8 = .ok (.getfield 13, 3) := by decide +kernel
theorem dX8_over_11 : decode cX8_over 11 = .ok (.iload_n 3, 1) := by decide +kernel
theorem dX8_over_12 : decode cX8_over 12 = .ok (.aload_n 0, 1) := by decide +kernel
theorem dX8_over_13 : decode cX8_over 13 = .ok (.getfield 40, 3) := by decide +kernel
theorem dX8_over_16 : decode cX8_over 16 = .ok (.aload_n 0, 1) := by decide +kernel
theorem dX8_over_17 : decode cX8_over 17 = .ok (.getfield 27, 3) := by decide +kernel
theorem dX8_over_20 : decode cX8_over 20 = .ok (.aload_n 0, 1) := by decide +kernel
theorem dX8_over_21 : decode cX8_over 21 = .ok (.getfield 31, 3) := by decide +kernel
theorem dX8_over_24 : decode cX8_over 24 = .ok (.aload_n 0, 1) := by decide +kernel
theorem dX8_over_25 : decode cX8_over 25 = .ok (.getfield 9, 3) := by decide +kernel
theorem dX8_over_28 : decode cX8_over 28 = .ok (.iload_n 3, 1) := by decide +kernel
theorem dX8_over_29 : decode cX8_over 29 = .ok (.iaload, 1) := by decide +kernel
theorem dX8_over_30 : decode cX8_over 30 = .ok (.invokevirtual 123, 3) := by decide +kernel
theorem dX8_over_33 : decode cX8_over 33 = .ok (.lastore, 1) := by decide +kernel
theorem dX8_over_34 : decode cX8_over 34 = .ok (.return_, 1) := by decide +kernel
theorem dX8_fused_0 : decode cX8_fused 0 = .ok (.aload_n 0, 1) := by decide +kernel
theorem dX8_fused_1 : decode cX8_fused 1 = .ok (.iload_n 1, 1) := by decide +kernel
theorem dX8_fused_2 : decode cX8_fused 2 = .ok (.iload_n 2, 1) := by decide +kernel
theorem dX8_fused_3 : decode cX8_fused 3 = .ok (.iload_n 3, 1) := by decide +kernel
theorem dX8_fused_4 : decode cX8_fused 4 = .ok (.invokevirtual 111, 3) := by decide +kernel
theorem dX8_fused_7 : decode cX8_fused 7 = .ok (.aload_n 0, 1) := by decide +kernel
theorem dX8_fused_8 : decode cX8_fused 8 = .ok (.getfield 34, 3) := by decide +kernel
theorem dX8_fused_11 : decode cX8_fused 11 = .ok (.aload_n 0, 1) := by decide +kernel
theorem dX8_fused_12 : decode cX8_fused 12 = .ok (.getfield 13, 3) := by decide +kernel
theorem dX8_fused_15 : decode cX8_fused 15 = .ok (.iload_n 3, 1) := by decide +kernel
theorem dX8_fused_16 : decode cX8_fused 16 = .ok (.laload, 1) := by decide +kernel
theorem dX8_fused_17 : decode cX8_fused 17 = .ok (.aload_n 0, 1) := by decide +kernel
theorem dX8_fused_18 : decode cX8_fused 18 = .ok (.getfield 9, 3) := by decide +kernel
theorem dX8_fused_21 : decode cX8_fused 21 = .ok (.iload_n 3, 1) := by decide +kernel
theorem dX8_fused_22 : decode cX8_fused 22 = .ok (.iaload, 1) := by decide +kernel
theorem dX8_fused_23 : decode cX8_fused 23 = .ok (.invokevirtual 71, 3) := by decide +kernel
theorem dX8_fused_26 : decode cX8_fused 26 = .ok (.aload_n 0, 1) := by decide +kernel
theorem dX8_fused_27 : decode cX8_fused 27 = .ok (.getfield 13, 3) := by decide +kernel
theorem dX8_fused_30 : decode cX8_fused 30 = .ok (.iload_n 3, 1) := by decide +kernel
theorem dX8_fused_31 : decode cX8_fused 31 = .ok (.aload_n 0, 1) := by decide +kernel
theorem dX8_fused_32 : decode cX8_fused 32 = .ok (.getfield 40, 3) := by decide +kernel
theorem dX8_fused_35 : decode cX8_fused 35 = .ok (.aload_n 0, 1) := by decide +kernel
theorem dX8_fused_36 : decode cX8_fused 36 = .ok (.getfield 27, 3) := by decide +kernel
theorem dX8_fused_39 : decode cX8_fused 39 = .ok (.aload_n 0, 1) := by decide +kernel
theorem dX8_fused_40 : decode cX8_fused 40 = .ok (.getfield 31, 3) := by decide +kernel
theorem dX8_fused_43 : decode cX8_fused 43 = .ok (.aload_n 0, 1) := by decide +kernel
theorem dX8_fused_44 : decode cX8_fused 44 = .ok (.getfield 34, 3) := by decide +kernel
theorem dX8_fused_47 : decode cX8_fused 47 = .ok (.aload_n 0, 1) := by decide +kernel
theorem dX8_fused_48 : decode cX8_fused 48 = .ok (.getfield 9, 3) := by decide +kernel
theorem dX8_fused_51 : decode cX8_fused 51 = .ok (.iload_n 3, 1) := by decide +kernel
theorem dX8_fused_52 : decode cX8_fused 52 = .ok (.iaload, 1) := by decide +kernel
theorem dX8_fused_53 : decode cX8_fused 53 = .ok (.invokevirtual 126, 3) := by decide +kernel
theorem dX8_fused_56 : decode cX8_fused 56 = .ok (.lastore, 1) := by decide +kernel
theorem dX8_fused_57 : decode cX8_fused 57 = .ok (.return_, 1) := by decide +kernel
theorem dX8_root_0 : decode cX8_root 0 = .ok (.iload_n 1, 1) := by decide +kernel
theorem dX8_root_1 : decode cX8_root 1 = .ok (.invokestatic 58, 3) := by decide +kernel
theorem dX8_root_4 : decode cX8_root 4 = .ok (.iload_n 3, 1) := by decide +kernel
theorem dX8_root_5 : decode cX8_root 5 = .ok (.invokestatic 58, 3) := by decide +kernel
theorem dX8_root_8 : decode cX8_root 8 = .ok (.iload_n 2, 1) := by decide +kernel
theorem dX8_root_9 : decode cX8_root 9 = .ok (.iconst 1, 1) := by decide +kernel
theorem dX8_root_10 : decode cX8_root 10 = .ok (.if_icmp .lt 9, 3) := by decide +kernel
theorem dX8_root_13 : decode cX8_root 13 = .ok (.iload_n 2, 1) := by decide +kernel
theorem dX8_root_14 : decode cX8_root 14 = .ok (.bipush 8, 2) := by decide +kernel
theorem dX8_root_16 : decode cX8_root 16 = .ok (.if_icmp .le 13, 3) := by decide +kernel
theorem dX8_root_19 : decode cX8_root 19 = .ok (.new 130, 3) := by decide +kernel
theorem dX8_root_22 : decode cX8_root 22 = .ok (.dup, 1) := by decide +kernel
theorem dX8_root_23 : decode cX8_root 23 = .ok (.ldc 132, 2) := by decide +kernel
theorem dX8_root_25 : decode cX8_root 25 = .ok (.invokespecial 134, 3) := by decide +kernel
theorem dX8_root_28 : decode cX8_root 28 = .ok (.athrow, 1) := by decide +kernel
theorem dX8_root_29 : decode cX8_root 29 = .ok (.aload_n 0, 1) := by decide +kernel
theorem dX8_root_30 : decode cX8_root 30 = .ok (.getfield 27, 3) := by decide +kernel
theorem dX8_root_33 : decode cX8_root 33 = .ok (.aload_n 0, 1) := by decide +kernel
theorem dX8_root_34 : decode cX8_root 34 = .ok (.getfield 13, 3) := by decide +kernel
theorem dX8_root_37 : decode cX8_root 37 = .ok (.iload_n 1, 1) := by decide +kernel
theorem dX8_root_38 : decode cX8_root 38 = .ok (.laload, 1) := by decide +kernel
theorem dX8_root_39 : decode cX8_root 39 = .ok (.aload_n 0, 1) := by decide +kernel
theorem dX8_root_40 : decode cX8_root 40 = .ok (.getfield 9, 3) := by decide +kernel
theorem dX8_root_43 : decode cX8_root 43 = .ok (.iload_n 1, 1) := by decide +kernel
theorem dX8_root_44 : decode cX8_root 44 = .ok (.iaload, 1) := by decide +kernel
theorem dX8_root_45 : decode cX8_root 45 = .ok (.invokevirtual 71, 3) := by decide +kernel
theorem dX8_root_48 : decode cX8_root 48 = .ok (.aload_n 0, 1) := by decide +kernel
theorem dX8_root_49 : decode cX8_root 49 = .ok (.getfield 13, 3) := by decide +kernel
theorem dX8_root_52 : decode cX8_root 52 = .ok (.iload_n 3, 1) := by decide +kernel
theorem dX8_root_53 : decode cX8_root 53 = .ok (.aload_n 0, 1) := by decide +kernel
theorem dX8_root_54 : decode cX8_root 54 = .ok (.getfield 40, 3) := by decide +kernel
theorem dX8_root_57 : decode cX8_root 57 = .ok (.aload_n 0, 1) := by decide +kernel
theorem dX8_root_58 : decode cX8_root 58 = .ok (.getfield 27, 3) := by decide +kernel
theorem dX8_root_61 : decode cX8_root 61 = .ok (.iload_n 2, 1) := by decide +kernel
theorem dX8_root_62 : decode cX8_root 62 = .ok (.aload_n 0, 1) := by decide +kernel
theorem dX8_root_63 : decode cX8_root 63 = .ok (.getfield 9, 3) := by decide +kernel
theorem dX8_root_66 : decode cX8_root 66 = .ok (.iload_n 3, 1) := by decide +kernel
theorem dX8_root_67 : decode cX8_root 67 = .ok (.iaload, 1) := by decide +kernel
theorem dX8_root_68 : decode cX8_root 68 = .ok (.invokevirtual 135, 3) := by decide +kernel
theorem dX8_root_71 : decode cX8_root 71 = .ok (.lastore, 1) := by decide +kernel
theorem dX8_root_72 : decode cX8_root 72 = .ok (.return_, 1) := by decide +kernel
theorem dX8_under_0 : decode cX8_under 0 = .ok (.iload_n 1, 1) := by decide +kernel
theorem dX8_under_1 : decode cX8_under 1 = .ok (.invokestatic 58, 3) := by decide +kernel
theorem dX8_under_4 : decode cX8_under 4 = .ok (.iload_n 2, 1) := by decide +kernel
theorem dX8_under_5 : decode cX8_under 5 = .ok (.invokestatic 58, 3) := by decide +kernel
theorem dX8_under_8 : decode cX8_under 8 = .ok (.aload_n 0, 1) := by decide +kernel
theorem dX8_under_9 : decode cX8_under 9 = .ok (.getfield 27, 3) := by decide +kernel
theorem dX8_under_12 : decode cX8_under 12 = .ok (.aload_n 0, 1) := by decide +kernel
theorem dX8_under_13 : decode cX8_under 13 = .ok (.getfield 13, 3) := by decide +kernel
theorem dX8_under_16 : decode cX8_under 16 = .ok (.iload_n 1, 1) := by decide +kernel
theorem dX8_under_17 : decode cX8_under 17 = .ok (.laload, 1) := by decide +kernel
theorem dX8_under_18 : decode cX8_under 18 = .ok (.aload_n 0, 1) := by decide +kernel
theorem dX8_under_19 : decode cX8_under 19 = .ok (.getfield 9, 3) := by decide +kernel
theorem dX8_under_22 : decode cX8_under 22 = .ok (.iload_n 1, 1) := by decide +kernel
theorem dX8_under_23 : decode cX8_under 23 = .ok (.iaload, 1) := by decide +kernel
theorem dX8_under_24 : decode cX8_under 24 = .ok (.invokevirtual 71, 3) := by decide +kernel
theorem dX8_under_27 : decode cX8_under 27 = .ok (.aload_n 0, 1) := by decide +kernel
theorem dX8_under_28 : decode cX8_under 28 = .ok (.getfield 13, 3) := by decide +kernel
theorem dX8_under_31 : decode cX8_under 31 = .ok (.iload_n 2, 1) := by decide +kernel
theorem dX8_under_32 : decode cX8_under 32 = .ok (.aload_n 0, 1) := by decide +kernel
theorem dX8_under_33 : decode cX8_under 33 = .ok (.getfield 40, 3) := by decide +kernel
theorem dX8_under_36 : decode cX8_under 36 = .ok (.aload_n 0, 1) := by decide +kernel
theorem dX8_under_37 : decode cX8_under 37 = .ok (.getfield 27, 3) := by decide +kernel
theorem dX8_under_40 : decode cX8_under 40 = .ok (.aload_n 0, 1) := by decide +kernel
theorem dX8_under_41 : decode cX8_under 41 = .ok (.getfield 9, 3) := by decide +kernel
theorem dX8_under_44 : decode cX8_under 44 = .ok (.iload_n 2, 1) := by decide +kernel
theorem dX8_under_45 : decode cX8_under 45 = .ok (.iaload, 1) := by decide +kernel
theorem dX8_under_46 : decode cX8_under 46 = .ok (.invokevirtual 139, 3) := by decide +kernel
theorem dX8_under_49 : decode cX8_under 49 = .ok (.lastore, 1) := by decide +kernel
theorem dX8_under_50 : decode cX8_under 50 = .ok (.return_, 1) := by decide +kernel
theorem dX8_far_0 : decode cX8_far 0 = .ok (.aload_n 0, 1) := by decide +kernel
theorem dX8_far_1 : decode cX8_far 1 = .ok (.iload_n 1, 1) := by decide +kernel
theorem dX8_far_2 : decode cX8_far 2 = .ok (.iload_n 2, 1) := by decide +kernel
theorem dX8_far_3 : decode cX8_far 3 = .ok (.iload_n 3, 1) := by decide +kernel
theorem dX8_far_4 : decode cX8_far 4 = .ok (.invokevirtual 111, 3) := by decide +kernel
theorem dX8_far_7 : decode cX8_far 7 = .ok (.aload_n 0, 1) := by decide +kernel
theorem dX8_far_8 : decode cX8_far 8 = .ok (.getfield 13, 3) := by decide +kernel
theorem dX8_far_11 : decode cX8_far 11 = .ok (.iload_n 3, 1) := by decide +kernel
theorem dX8_far_12 : decode cX8_far 12 = .ok (.aload_n 0, 1) := by decide +kernel
theorem dX8_far_13 : decode cX8_far 13 = .ok (.getfield 40, 3) := by decide +kernel
theorem dX8_far_16 : decode cX8_far 16 = .ok (.aload_n 0, 1) := by decide +kernel
theorem dX8_far_17 : decode cX8_far 17 = .ok (.getfield 27, 3) := by decide +kernel
theorem dX8_far_20 : decode cX8_far 20 = .ok (.aload_n 0, 1) := by decide +kernel
theorem dX8_far_21 : decode cX8_far 21 = .ok (.getfield 31, 3) := by decide +kernel
theorem dX8_far_24 : decode cX8_far 24 = .ok (.aload_n 0, 1) := by decide +kernel
theorem dX8_far_25 : decode cX8_far 25 = .ok (.getfield 9, 3) := by decide +kernel
theorem dX8_far_28 : decode cX8_far 28 = .ok (.iload_n 3, 1) := by decide +kernel
theorem dX8_far_29 : decode cX8_far 29 = .ok (.iaload, 1) := by decide +kernel
theorem dX8_far_30 : decode cX8_far 30 = .ok (.invokevirtual 142, 3) := by decide +kernel
theorem dX8_far_33 : decode cX8_far 33 = .ok (.lastore, 1) := by decide +kernel
theorem dX8_far_34 : decode cX8_far 34 = .ok (.return_, 1) := by decide +kernel
theorem dX8_power_0 : decode cX8_power 0 = .ok (.iload_n 1, 1) := by decide +kernel
theorem dX8_power_1 : decode cX8_power 1 = .ok (.invokestatic 58, 3) := by decide +kernel
theorem dX8_power_4 : decode cX8_power 4 = .ok (.iload_n 3, 1) := by decide +kernel
theorem dX8_power_5 : decode cX8_power 5 = .ok (.invokestatic 58, 3) := by decide +kernel
theorem dX8_power_8 : decode cX8_power 8 = .ok (.iload_n 2, 1) := by decide +kernel
theorem dX8_power_9 : decode cX8_power 9 = .ok (.bipush (-16), 2) := by decide +kernel
theorem dX8_power_11 : decode cX8_power 11 = .ok (.if_icmp .lt 9, 3) := by decide +kernel
theorem dX8_power_14 : decode cX8_power 14 = .ok (.iload_n 2, 1) := by decide +kernel
theorem dX8_power_15 : decode cX8_power 15 = .ok (.bipush 16, 2) := by decide +kernel
theorem dX8_power_17 : decode cX8_power 17 = .ok (.if_icmp .le 13, 3) := by decide +kernel
theorem dX8_power_20 : decode cX8_power 20 = .ok (.new 130, 3) := by decide +kernel
theorem dX8_power_23 : decode cX8_power 23 = .ok (.dup, 1) := by decide +kernel
theorem dX8_power_24 : decode cX8_power 24 = .ok (.ldc 145, 2) := by decide +kernel
theorem dX8_power_26 : decode cX8_power 26 = .ok (.invokespecial 134, 3) := by decide +kernel
theorem dX8_power_29 : decode cX8_power 29 = .ok (.athrow, 1) := by decide +kernel
theorem dX8_power_30 : decode cX8_power 30 = .ok (.aload_n 0, 1) := by decide +kernel
theorem dX8_power_31 : decode cX8_power 31 = .ok (.getfield 27, 3) := by decide +kernel
theorem dX8_power_34 : decode cX8_power 34 = .ok (.aload_n 0, 1) := by decide +kernel
theorem dX8_power_35 : decode cX8_power 35 = .ok (.getfield 13, 3) := by decide +kernel
theorem dX8_power_38 : decode cX8_power 38 = .ok (.iload_n 1, 1) := by decide +kernel
theorem dX8_power_39 : decode cX8_power 39 = .ok (.laload, 1) := by decide +kernel
theorem dX8_power_40 : decode cX8_power 40 = .ok (.aload_n 0, 1) := by decide +kernel
theorem dX8_power_41 : decode cX8_power 41 = .ok (.getfield 9, 3) := by decide +kernel
theorem dX8_power_44 : decode cX8_power 44 = .ok (.iload_n 1, 1) := by decide +kernel
theorem dX8_power_45 : decode cX8_power 45 = .ok (.iaload, 1) := by decide +kernel
theorem dX8_power_46 : decode cX8_power 46 = .ok (.invokevirtual 71, 3) := by decide +kernel
theorem dX8_power_49 : decode cX8_power 49 = .ok (.aload_n 0, 1) := by decide +kernel
theorem dX8_power_50 : decode cX8_power 50 = .ok (.getfield 13, 3) := by decide +kernel
theorem dX8_power_53 : decode cX8_power 53 = .ok (.iload_n 3, 1) := by decide +kernel
theorem dX8_power_54 : decode cX8_power 54 = .ok (.aload_n 0, 1) := by decide +kernel
theorem dX8_power_55 : decode cX8_power 55 = .ok (.getfield 40, 3) := by decide +kernel
theorem dX8_power_58 : decode cX8_power 58 = .ok (.aload_n 0, 1) := by decide +kernel
theorem dX8_power_59 : decode cX8_power 59 = .ok (.getfield 27, 3) := by decide +kernel
theorem dX8_power_62 : decode cX8_power 62 = .ok (.iload_n 2, 1) := by decide +kernel
theorem dX8_power_63 : decode cX8_power 63 = .ok (.aload_n 0, 1) := by decide +kernel
theorem dX8_power_64 : decode cX8_power 64 = .ok (.getfield 9, 3) := by decide +kernel
theorem dX8_power_67 : decode cX8_power 67 = .ok (.iload_n 3, 1) := by decide +kernel
theorem dX8_power_68 : decode cX8_power 68 = .ok (.iaload, 1) := by decide +kernel
theorem dX8_power_69 : decode cX8_power 69 = .ok (.invokevirtual 147, 3) := by decide +kernel
theorem dX8_power_72 : decode cX8_power 72 = .ok (.lastore, 1) := by decide +kernel
theorem dX8_power_73 : decode cX8_power 73 = .ok (.return_, 1) := by decide +kernel
theorem dX8_turn_0 : decode cX8_turn 0 = .ok (.iload_n 1, 1) := by decide +kernel
theorem dX8_turn_1 : decode cX8_turn 1 = .ok (.invokestatic 58, 3) := by decide +kernel
theorem dX8_turn_4 : decode cX8_turn 4 = .ok (.iload_n 2, 1) := by decide +kernel
theorem dX8_turn_5 : decode cX8_turn 5 = .ok (.ifCond .lt 9, 3) := by decide +kernel
theorem dX8_turn_8 : decode cX8_turn 8 = .ok (.iload_n 2, 1) := by decide +kernel
theorem dX8_turn_9 : decode cX8_turn 9 = .ok (.bipush 7, 2) := by decide +kernel
theorem dX8_turn_11 : decode cX8_turn 11 = .ok (.if_icmp .le 13, 3) := by decide +kernel
theorem dX8_turn_14 : decode cX8_turn 14 = .ok (.new 130, 3) := by decide +kernel
theorem dX8_turn_17 : decode cX8_turn 17 = .ok (.dup, 1) := by decide +kernel
theorem dX8_turn_18 : decode cX8_turn 18 = .ok (.ldc 150, 2) := by decide +kernel
theorem dX8_turn_20 : decode cX8_turn 20 = .ok (.invokespecial 134, 3) := by decide +kernel
theorem dX8_turn_23 : decode cX8_turn 23 = .ok (.athrow, 1) := by decide +kernel
theorem dX8_turn_24 : decode cX8_turn 24 = .ok (.aload_n 0, 1) := by decide +kernel
theorem dX8_turn_25 : decode cX8_turn 25 = .ok (.getfield 13, 3) := by decide +kernel
theorem dX8_turn_28 : decode cX8_turn 28 = .ok (.iload_n 1, 1) := by decide +kernel
theorem dX8_turn_29 : decode cX8_turn 29 = .ok (.aload_n 0, 1) := by decide +kernel
theorem dX8_turn_30 : decode cX8_turn 30 = .ok (.aload_n 0, 1) := by decide +kernel
theorem dX8_turn_31 : decode cX8_turn 31 = .ok (.getfield 13, 3) := by decide +kernel
theorem dX8_turn_34 : decode cX8_turn 34 = .ok (.iload_n 1, 1) := by decide +kernel
theorem dX8_turn_35 : decode cX8_turn 35 = .ok (.laload, 1) := by decide +kernel
theorem dX8_turn_36 : decode cX8_turn 36 = .ok (.aload_n 0, 1) := by decide +kernel
theorem dX8_turn_37 : decode cX8_turn 37 = .ok (.getfield 9, 3) := by decide +kernel
theorem dX8_turn_40 : decode cX8_turn 40 = .ok (.iload_n 1, 1) := by decide +kernel
theorem dX8_turn_41 : decode cX8_turn 41 = .ok (.iaload, 1) := by decide +kernel
theorem dX8_turn_42 : decode cX8_turn 42 = .ok (.iload_n 2, 1) := by decide +kernel
theorem dX8_turn_43 : decode cX8_turn 43 = .ok (.invokevirtual 152, 3) := by decide +kernel
theorem dX8_turn_46 : decode cX8_turn 46 = .ok (.lastore, 1) := by decide +kernel
theorem dX8_turn_47 : decode cX8_turn 47 = .ok (.return_, 1) := by decide +kernel
theorem dX8_clear_0 : decode cX8_clear 0 = .ok (.iload_n 1, 1) := by decide +kernel
theorem dX8_clear_1 : decode cX8_clear 1 = .ok (.invokestatic 156, 3) := by decide +kernel
theorem dX8_clear_4 : decode cX8_clear 4 = .ok (.aload_n 0, 1) := by decide +kernel
theorem dX8_clear_5 : decode cX8_clear 5 = .ok (.getfield 19, 3) := by decide +kernel
theorem dX8_clear_8 : decode cX8_clear 8 = .ok (.iload_n 1, 1) := by decide +kernel
theorem dX8_clear_9 : decode cX8_clear 9 = .ok (.aaload, 1) := by decide +kernel
theorem dX8_clear_10 : decode cX8_clear 10 = .ok (.invokevirtual 159, 3) := by decide +kernel
theorem dX8_clear_13 : decode cX8_clear 13 = .ok (.return_, 1) := by decide +kernel
theorem dX8_gather_0 : decode cX8_gather 0 = .ok (.iload_n 1, 1) := by decide +kernel
theorem dX8_gather_1 : decode cX8_gather 1 = .ok (.invokestatic 156, 3) := by decide +kernel
theorem dX8_gather_4 : decode cX8_gather 4 = .ok (.aload_n 0, 1) := by decide +kernel
theorem dX8_gather_5 : decode cX8_gather 5 = .ok (.iload_n 2, 1) := by decide +kernel
theorem dX8_gather_6 : decode cX8_gather 6 = .ok (.iload_n 3, 1) := by decide +kernel
theorem dX8_gather_7 : decode cX8_gather 7 = .ok (.iload_n 3, 1) := by decide +kernel
theorem dX8_gather_8 : decode cX8_gather 8 = .ok (.invokevirtual 111, 3) := by decide +kernel
theorem dX8_gather_11 : decode cX8_gather 11 = .ok (.aload_n 0, 1) := by decide +kernel
theorem dX8_gather_12 : decode cX8_gather 12 = .ok (.getfield 19, 3) := by decide +kernel
theorem dX8_gather_15 : decode cX8_gather 15 = .ok (.iload_n 1, 1) := by decide +kernel
theorem dX8_gather_16 : decode cX8_gather 16 = .ok (.aaload, 1) := by decide +kernel
theorem dX8_gather_17 : decode cX8_gather 17 = .ok (.aload_n 0, 1) := by decide +kernel
theorem dX8_gather_18 : decode cX8_gather 18 = .ok (.getfield 27, 3) := by decide +kernel
theorem dX8_gather_21 : decode cX8_gather 21 = .ok (.aload_n 0, 1) := by decide +kernel
theorem dX8_gather_22 : decode cX8_gather 22 = .ok (.getfield 31, 3) := by decide +kernel
theorem dX8_gather_25 : decode cX8_gather 25 = .ok (.iload 4, 2) := by decide +kernel
theorem dX8_gather_27 : decode cX8_gather 27 = .ok (.invokevirtual 162, 3) := by decide +kernel
theorem dX8_gather_30 : decode cX8_gather 30 = .ok (.return_, 1) := by decide +kernel
theorem dX8_dot_0 : decode cX8_dot 0 = .ok (.iload_n 1, 1) := by decide +kernel
theorem dX8_dot_1 : decode cX8_dot 1 = .ok (.invokestatic 156, 3) := by decide +kernel
theorem dX8_dot_4 : decode cX8_dot 4 = .ok (.iload_n 2, 1) := by decide +kernel
theorem dX8_dot_5 : decode cX8_dot 5 = .ok (.invokestatic 58, 3) := by decide +kernel
theorem dX8_dot_8 : decode cX8_dot 8 = .ok (.iload_n 3, 1) := by decide +kernel
theorem dX8_dot_9 : decode cX8_dot 9 = .ok (.invokestatic 58, 3) := by decide +kernel
theorem dX8_dot_12 : decode cX8_dot 12 = .ok (.iload 4, 2) := by decide +kernel
theorem dX8_dot_14 : decode cX8_dot 14 = .ok (.ifCond .lt 10, 3) := by decide +kernel
theorem dX8_dot_17 : decode cX8_dot 17 = .ok (.iload 4, 2) := by decide +kernel
theorem dX8_dot_19 : decode cX8_dot 19 = .ok (.bipush 32, 2) := by decide +kernel
theorem dX8_dot_21 : decode cX8_dot 21 = .ok (.if_icmp .le 13, 3) := by decide +kernel
theorem dX8_dot_24 : decode cX8_dot 24 = .ok (.new 130, 3) := by decide +kernel
theorem dX8_dot_27 : decode cX8_dot 27 = .ok (.dup, 1) := by decide +kernel
theorem dX8_dot_28 : decode cX8_dot 28 = .ok (.ldc 166, 2) := by decide +kernel
theorem dX8_dot_30 : decode cX8_dot 30 = .ok (.invokespecial 134, 3) := by decide +kernel
theorem dX8_dot_33 : decode cX8_dot 33 = .ok (.athrow, 1) := by decide +kernel
theorem dX8_dot_34 : decode cX8_dot 34 = .ok (.iload 4, 2) := by decide +kernel
theorem dX8_dot_36 : decode cX8_dot 36 = .ok (.ifCond .le 21, 3) := by decide +kernel
theorem dX8_dot_39 : decode cX8_dot 39 = .ok (.iload_n 2, 1) := by decide +kernel
theorem dX8_dot_40 : decode cX8_dot 40 = .ok (.iload 4, 2) := by decide +kernel
theorem dX8_dot_42 : decode cX8_dot 42 = .ok (.iadd, 1) := by decide +kernel
theorem dX8_dot_43 : decode cX8_dot 43 = .ok (.iconst 1, 1) := by decide +kernel
theorem dX8_dot_44 : decode cX8_dot 44 = .ok (.isub, 1) := by decide +kernel
theorem dX8_dot_45 : decode cX8_dot 45 = .ok (.invokestatic 58, 3) := by decide +kernel
theorem dX8_dot_48 : decode cX8_dot 48 = .ok (.iload_n 3, 1) := by decide +kernel
theorem dX8_dot_49 : decode cX8_dot 49 = .ok (.iload 4, 2) := by decide +kernel
theorem dX8_dot_51 : decode cX8_dot 51 = .ok (.iadd, 1) := by decide +kernel
theorem dX8_dot_52 : decode cX8_dot 52 = .ok (.iconst 1, 1) := by decide +kernel
theorem dX8_dot_53 : decode cX8_dot 53 = .ok (.isub, 1) := by decide +kernel
theorem dX8_dot_54 : decode cX8_dot 54 = .ok (.invokestatic 58, 3) := by decide +kernel
theorem dX8_dot_57 : decode cX8_dot 57 = .ok (.iconst 0, 1) := by decide +kernel
theorem dX8_dot_58 : decode cX8_dot 58 = .ok (.istore 5, 2) := by decide +kernel
theorem dX8_dot_60 : decode cX8_dot 60 = .ok (.iload 5, 2) := by decide +kernel
theorem dX8_dot_62 : decode cX8_dot 62 = .ok (.iload 4, 2) := by decide +kernel
theorem dX8_dot_64 : decode cX8_dot 64 = .ok (.if_icmp .ge 40, 3) := by decide +kernel
theorem dX8_dot_67 : decode cX8_dot 67 = .ok (.aload_n 0, 1) := by decide +kernel
theorem dX8_dot_68 : decode cX8_dot 68 = .ok (.iload_n 2, 1) := by decide +kernel
theorem dX8_dot_69 : decode cX8_dot 69 = .ok (.iload 5, 2) := by decide +kernel
theorem dX8_dot_71 : decode cX8_dot 71 = .ok (.iadd, 1) := by decide +kernel
theorem dX8_dot_72 : decode cX8_dot 72 = .ok (.iload_n 3, 1) := by decide +kernel
theorem dX8_dot_73 : decode cX8_dot 73 = .ok (.iload 5, 2) := by decide +kernel
theorem dX8_dot_75 : decode cX8_dot 75 = .ok (.iadd, 1) := by decide +kernel
theorem dX8_dot_76 : decode cX8_dot 76 = .ok (.iload_n 3, 1) := by decide +kernel
theorem dX8_dot_77 : decode cX8_dot 77 = .ok (.invokevirtual 111, 3) := by decide +kernel
theorem dX8_dot_80 : decode cX8_dot 80 = .ok (.aload_n 0, 1) := by decide +kernel
theorem dX8_dot_81 : decode cX8_dot 81 = .ok (.getfield 19, 3) := by decide +kernel
theorem dX8_dot_84 : decode cX8_dot 84 = .ok (.iload_n 1, 1) := by decide +kernel
theorem dX8_dot_85 : decode cX8_dot 85 = .ok (.aaload, 1) := by decide +kernel
theorem dX8_dot_86 : decode cX8_dot 86 = .ok (.aload_n 0, 1) := by decide +kernel
theorem dX8_dot_87 : decode cX8_dot 87 = .ok (.getfield 27, 3) := by decide +kernel
theorem dX8_dot_90 : decode cX8_dot 90 = .ok (.aload_n 0, 1) := by decide +kernel
theorem dX8_dot_91 : decode cX8_dot 91 = .ok (.getfield 31, 3) := by decide +kernel
theorem dX8_dot_94 : decode cX8_dot 94 = .ok (.iconst 0, 1) := by decide +kernel
theorem dX8_dot_95 : decode cX8_dot 95 = .ok (.invokevirtual 162, 3) := by decide +kernel
theorem dX8_dot_98 : decode cX8_dot 98 = .ok (.iinc 5 1, 3) := by decide +kernel
theorem dX8_dot_101 : decode cX8_dot 101 = .ok (.goto (-41), 3) := by decide +kernel
theorem dX8_dot_104 : decode cX8_dot 104 = .ok (.return_, 1) := by decide +kernel
theorem dX8_settle_0 : decode cX8_settle 0 = .ok (.iload_n 1, 1) := by decide +kernel
theorem dX8_settle_1 : decode cX8_settle 1 = .ok (.invokestatic 156, 3) := by decide +kernel
theorem dX8_settle_4 : decode cX8_settle 4 = .ok (.iload_n 2, 1) := by decide +kernel
theorem dX8_settle_5 : decode cX8_settle 5 = .ok (.invokestatic 58, 3) := by decide +kernel
theorem dX8_settle_8 : decode cX8_settle 8 = .ok (.aload_n 0, 1) := by decide +kernel
theorem dX8_settle_9 : decode cX8_settle 9 = .ok (.getfield 13, 3) := by decide +kernel
theorem dX8_settle_12 : decode cX8_settle 12 = .ok (.iload_n 2, 1) := by decide +kernel
theorem dX8_settle_13 : decode cX8_settle 13 = .ok (.aload_n 0, 1) := by decide +kernel
theorem dX8_settle_14 : decode cX8_settle 14 = .ok (.getfield 40, 3) := by decide +kernel
theorem dX8_settle_17 : decode cX8_settle 17 = .ok (.aload_n 0, 1) := by decide +kernel
theorem dX8_settle_18 : decode cX8_settle 18 = .ok (.getfield 19, 3) := by decide +kernel
theorem dX8_settle_21 : decode cX8_settle 21 = .ok (.iload_n 1, 1) := by decide +kernel
theorem dX8_settle_22 : decode cX8_settle 22 = .ok (.aaload, 1) := by decide +kernel
theorem dX8_settle_23 : decode cX8_settle 23 = .ok (.aload_n 0, 1) := by decide +kernel
theorem dX8_settle_24 : decode cX8_settle 24 = .ok (.getfield 9, 3) := by decide +kernel
theorem dX8_settle_27 : decode cX8_settle 27 = .ok (.iload_n 2, 1) := by decide +kernel
theorem dX8_settle_28 : decode cX8_settle 28 = .ok (.iaload, 1) := by decide +kernel
theorem dX8_settle_29 : decode cX8_settle 29 = .ok (.invokevirtual 168, 3) := by decide +kernel
theorem dX8_settle_32 : decode cX8_settle 32 = .ok (.lastore, 1) := by decide +kernel
theorem dX8_settle_33 : decode cX8_settle 33 = .ok (.return_, 1) := by decide +kernel
theorem dX8_image_0 : decode cX8_image 0 = .ok (.iload_n 1, 1) := by decide +kernel
theorem dX8_image_1 : decode cX8_image 1 = .ok (.invokestatic 156, 3) := by decide +kernel
theorem dX8_image_4 : decode cX8_image 4 = .ok (.iload_n 2, 1) := by decide +kernel
theorem dX8_image_5 : decode cX8_image 5 = .ok (.ifCond .lt 9, 3) := by decide +kernel
theorem dX8_image_8 : decode cX8_image 8 = .ok (.iload_n 2, 1) := by decide +kernel
theorem dX8_image_9 : decode cX8_image 9 = .ok (.bipush 16, 2) := by decide +kernel
theorem dX8_image_11 : decode cX8_image 11 = .ok (.if_icmp .lt 13, 3) := by decide +kernel
theorem dX8_image_14 : decode cX8_image 14 = .ok (.new 130, 3) := by decide +kernel
theorem dX8_image_17 : decode cX8_image 17 = .ok (.dup, 1) := by decide +kernel
theorem dX8_image_18 : decode cX8_image 18 = .ok (.ldc 172, 2) := by decide +kernel
theorem dX8_image_20 : decode cX8_image 20 = .ok (.invokespecial 134, 3) := by decide +kernel
theorem dX8_image_23 : decode cX8_image 23 = .ok (.athrow, 1) := by decide +kernel
theorem dX8_image_24 : decode cX8_image 24 = .ok (.aload_n 0, 1) := by decide +kernel
theorem dX8_image_25 : decode cX8_image 25 = .ok (.getfield 19, 3) := by decide +kernel
theorem dX8_image_28 : decode cX8_image 28 = .ok (.iload_n 1, 1) := by decide +kernel
theorem dX8_image_29 : decode cX8_image 29 = .ok (.aaload, 1) := by decide +kernel
theorem dX8_image_30 : decode cX8_image 30 = .ok (.iload_n 2, 1) := by decide +kernel
theorem dX8_image_31 : decode cX8_image 31 = .ok (.invokevirtual 174, 3) := by decide +kernel
theorem dX8_image_34 : decode cX8_image 34 = .ok (.ireturn, 1) := by decide +kernel
theorem dX8_feed_0 : decode cX8_feed 0 = .ok (.iload_n 3, 1) := by decide +kernel
theorem dX8_feed_1 : decode cX8_feed 1 = .ok (.iconst 1, 1) := by decide +kernel
theorem dX8_feed_2 : decode cX8_feed 2 = .ok (.if_icmp .lt 23, 3) := by decide +kernel
theorem dX8_feed_5 : decode cX8_feed 5 = .ok (.iload_n 3, 1) := by decide +kernel
theorem dX8_feed_6 : decode cX8_feed 6 = .ok (.bipush 8, 2) := by decide +kernel
theorem dX8_feed_8 : decode cX8_feed 8 = .ok (.if_icmp .gt 17, 3) := by decide +kernel
theorem dX8_feed_11 : decode cX8_feed 11 = .ok (.aload_n 0, 1) := by decide +kernel
theorem dX8_feed_12 : decode cX8_feed 12 = .ok (.getfield 47, 3) := by decide +kernel
theorem dX8_feed_15 : decode cX8_feed 15 = .ok (.getfield 178, 3) := by decide +kernel
theorem dX8_feed_18 : decode cX8_feed 18 = .ok (.iload_n 3, 1) := by decide +kernel
theorem dX8_feed_19 : decode cX8_feed 19 = .ok (.iadd, 1) := by decide +kernel
theorem dX8_feed_20 : decode cX8_feed 20 = .ok (.bipush 80, 2) := by decide +kernel
theorem dX8_feed_22 : decode cX8_feed 22 = .ok (.if_icmp .le 13, 3) := by decide +kernel
theorem dX8_feed_25 : decode cX8_feed 25 = .ok (.new 130, 3) := by decide +kernel
theorem dX8_feed_28 : decode cX8_feed 28 = .ok (.dup, 1) := by decide +kernel
theorem dX8_feed_29 : decode cX8_feed 29 = .ok (.ldc 182, 2) := by decide +kernel
theorem dX8_feed_31 : decode cX8_feed 31 = .ok (.invokespecial 134, 3) := by decide +kernel
theorem dX8_feed_34 : decode cX8_feed 34 = .ok (.athrow, 1) := by decide +kernel
theorem dX8_feed_35 : decode cX8_feed 35 = .ok (.iconst 0, 1) := by decide +kernel
theorem dX8_feed_36 : decode cX8_feed 36 = .ok (.istore 4, 2) := by decide +kernel
theorem dX8_feed_38 : decode cX8_feed 38 = .ok (.iload 4, 2) := by decide +kernel
theorem dX8_feed_40 : decode cX8_feed 40 = .ok (.iload_n 3, 1) := by decide +kernel
theorem dX8_feed_41 : decode cX8_feed 41 = .ok (.if_icmp .ge 28, 3) := by decide +kernel
theorem dX8_feed_44 : decode cX8_feed 44 = .ok (.aload_n 0, 1) := by decide +kernel
theorem dX8_feed_45 : decode cX8_feed 45 = .ok (.getfield 47, 3) := by decide +kernel
theorem dX8_feed_48 : decode cX8_feed 48 = .ok (.lload_n 1, 1) := by decide +kernel
theorem dX8_feed_49 : decode cX8_feed 49 = .ok (.bipush 8, 2) := by decide +kernel
theorem dX8_feed_51 : decode cX8_feed 51 = .ok (.iload 4, 2) := by decide +kernel
theorem dX8_feed_53 : decode cX8_feed 53 = .ok (.imul, 1) := by decide +kernel
theorem dX8_feed_54 : decode cX8_feed 54 = .ok (.lushr, 1) := by decide +kernel
theorem dX8_feed_55 : decode cX8_feed 55 = .ok (.l2i, 1) := by decide +kernel
theorem dX8_feed_56 : decode cX8_feed 56 = .ok (.sipush 255, 3) := by decide +kernel
theorem dX8_feed_59 : decode cX8_feed 59 = .ok (.iand, 1) := by decide +kernel
theorem dX8_feed_60 : decode cX8_feed 60 = .ok (.invokevirtual 184, 3) := by decide +kernel
theorem dX8_feed_63 : decode cX8_feed 63 = .ok (.iinc 4 1, 3) := by decide +kernel
theorem dX8_feed_66 : decode cX8_feed 66 = .ok (.goto (-28), 3) := by decide +kernel
theorem dX8_feed_69 : decode cX8_feed 69 = .ok (.aload_n 0, 1) := by decide +kernel
theorem dX8_feed_70 : decode cX8_feed 70 = .ok (.getfield 47, 3) := by decide +kernel
theorem dX8_feed_73 : decode cX8_feed 73 = .ok (.getfield 178, 3) := by decide +kernel
theorem dX8_feed_76 : decode cX8_feed 76 = .ok (.ireturn, 1) := by decide +kernel
theorem dX8_read_0 : decode cX8_read 0 = .ok (.iload_n 1, 1) := by decide +kernel
theorem dX8_read_1 : decode cX8_read 1 = .ok (.invokestatic 58, 3) := by decide +kernel
theorem dX8_read_4 : decode cX8_read 4 = .ok (.aload_n 0, 1) := by decide +kernel
theorem dX8_read_5 : decode cX8_read 5 = .ok (.getfield 47, 3) := by decide +kernel
theorem dX8_read_8 : decode cX8_read 8 = .ok (.invokevirtual 187, 3) := by decide +kernel
theorem dX8_read_11 : decode cX8_read 11 = .ok (.istore_n 2, 1) := by decide +kernel
theorem dX8_read_12 : decode cX8_read 12 = .ok (.aload_n 0, 1) := by decide +kernel
theorem dX8_read_13 : decode cX8_read 13 = .ok (.getfield 47, 3) := by decide +kernel
theorem dX8_read_16 : decode cX8_read 16 = .ok (.iconst 0, 1) := by decide +kernel
theorem dX8_read_17 : decode cX8_read 17 = .ok (.putfield 178, 3) := by decide +kernel
theorem dX8_read_20 : decode cX8_read 20 = .ok (.iload_n 2, 1) := by decide +kernel
theorem dX8_read_21 : decode cX8_read 21 = .ok (.ifCond .ne 13, 3) := by decide +kernel
theorem dX8_read_24 : decode cX8_read 24 = .ok (.iconst (-1), 1) := by decide +kernel
theorem dX8_read_25 : decode cX8_read 25 = .ok (.aload_n 0, 1) := by decide +kernel
theorem dX8_read_26 : decode cX8_read 26 = .ok (.getfield 47, 3) := by decide +kernel
theorem dX8_read_29 : decode cX8_read 29 = .ok (.getfield 190, 3) := by decide +kernel
theorem dX8_read_32 : decode cX8_read 32 = .ok (.isub, 1) := by decide +kernel
theorem dX8_read_33 : decode cX8_read 33 = .ok (.ireturn, 1) := by decide +kernel
theorem dX8_read_34 : decode cX8_read 34 = .ok (.aload_n 0, 1) := by decide +kernel
theorem dX8_read_35 : decode cX8_read 35 = .ok (.getfield 9, 3) := by decide +kernel
theorem dX8_read_38 : decode cX8_read 38 = .ok (.iload_n 1, 1) := by decide +kernel
theorem dX8_read_39 : decode cX8_read 39 = .ok (.iaload, 1) := by decide +kernel
theorem dX8_read_40 : decode cX8_read 40 = .ok (.istore_n 3, 1) := by decide +kernel
theorem dX8_read_41 : decode cX8_read 41 = .ok (.aload_n 0, 1) := by decide +kernel
theorem dX8_read_42 : decode cX8_read 42 = .ok (.getfield 13, 3) := by decide +kernel
theorem dX8_read_45 : decode cX8_read 45 = .ok (.iload_n 1, 1) := by decide +kernel
theorem dX8_read_46 : decode cX8_read 46 = .ok (.aload_n 0, 1) := by decide +kernel
theorem dX8_read_47 : decode cX8_read 47 = .ok (.getfield 47, 3) := by decide +kernel
theorem dX8_read_50 : decode cX8_read 50 = .ok (.getfield 193, 3) := by decide +kernel
theorem dX8_read_53 : decode cX8_read 53 = .ok (.ifCond .eq 10, 3) := by decide +kernel
theorem dX8_read_56 : decode cX8_read 56 = .ok (.iload_n 3, 1) := by decide +kernel
theorem dX8_read_57 : decode cX8_read 57 = .ok (.invokestatic 194, 3) := by decide +kernel
theorem dX8_read_60 : decode cX8_read 60 = .ok (.goto 32, 3) := by decide +kernel
theorem dX8_read_63 : decode cX8_read 63 = .ok (.aload_n 0, 1) := by decide +kernel
theorem dX8_read_64 : decode cX8_read 64 = .ok (.getfield 40, 3) := by decide +kernel
theorem dX8_read_67 : decode cX8_read 67 = .ok (.aload_n 0, 1) := by decide +kernel
theorem dX8_read_68 : decode cX8_read 68 = .ok (.getfield 47, 3) := by decide +kernel
theorem dX8_read_71 : decode cX8_read 71 = .ok (.getfield 197, 3) := by decide +kernel
theorem dX8_read_74 : decode cX8_read 74 = .ok (.aload_n 0, 1) := by decide +kernel
theorem dX8_read_75 : decode cX8_read 75 = .ok (.getfield 47, 3) := by decide +kernel
theorem dX8_read_78 : decode cX8_read 78 = .ok (.getfield 201, 3) := by decide +kernel
theorem dX8_read_81 : decode cX8_read 81 = .ok (.aload_n 0, 1) := by decide +kernel
theorem dX8_read_82 : decode cX8_read 82 = .ok (.getfield 47, 3) := by decide +kernel
theorem dX8_read_85 : decode cX8_read 85 = .ok (.getfield 204, 3) := by decide +kernel
theorem dX8_read_88 : decode cX8_read 88 = .ok (.iload_n 3, 1) := by decide +kernel
theorem dX8_read_89 : decode cX8_read 89 = .ok (.invokevirtual 207, 3) := by decide +kernel
theorem dX8_read_92 : decode cX8_read 92 = .ok (.lastore, 1) := by decide +kernel
theorem dX8_read_93 : decode cX8_read 93 = .ok (.iconst 0, 1) := by decide +kernel
theorem dX8_read_94 : decode cX8_read 94 = .ok (.ireturn, 1) := by decide +kernel
theorem dX8_write_0 : decode cX8_write 0 = .ok (.iload_n 1, 1) := by decide +kernel
theorem dX8_write_1 : decode cX8_write 1 = .ok (.invokestatic 58, 3) := by decide +kernel
theorem dX8_write_4 : decode cX8_write 4 = .ok (.aload_n 0, 1) := by decide +kernel
theorem dX8_write_5 : decode cX8_write 5 = .ok (.getfield 27, 3) := by decide +kernel
theorem dX8_write_8 : decode cX8_write 8 = .ok (.aload_n 0, 1) := by decide +kernel
theorem dX8_write_9 : decode cX8_write 9 = .ok (.getfield 13, 3) := by decide +kernel
theorem dX8_write_12 : decode cX8_write 12 = .ok (.iload_n 1, 1) := by decide +kernel
theorem dX8_write_13 : decode cX8_write 13 = .ok (.laload, 1) := by decide +kernel
theorem dX8_write_14 : decode cX8_write 14 = .ok (.aload_n 0, 1) := by decide +kernel
theorem dX8_write_15 : decode cX8_write 15 = .ok (.getfield 9, 3) := by decide +kernel
theorem dX8_write_18 : decode cX8_write 18 = .ok (.iload_n 1, 1) := by decide +kernel
theorem dX8_write_19 : decode cX8_write 19 = .ok (.iaload, 1) := by decide +kernel
theorem dX8_write_20 : decode cX8_write 20 = .ok (.invokevirtual 71, 3) := by decide +kernel
theorem dX8_write_23 : decode cX8_write 23 = .ok (.aload_n 0, 1) := by decide +kernel
theorem dX8_write_24 : decode cX8_write 24 = .ok (.getfield 27, 3) := by decide +kernel
theorem dX8_write_27 : decode cX8_write 27 = .ok (.getfield 83, 3) := by decide +kernel
theorem dX8_write_30 : decode cX8_write 30 = .ok (.ifCond .eq 13, 3) := by decide +kernel
theorem dX8_write_33 : decode cX8_write 33 = .ok (.aload_n 0, 1) := by decide +kernel
theorem dX8_write_34 : decode cX8_write 34 = .ok (.getfield 54, 3) := by decide +kernel
theorem dX8_write_37 : decode cX8_write 37 = .ok (.invokevirtual 211, 3) := by decide +kernel
theorem dX8_write_40 : decode cX8_write 40 = .ok (.goto 66, 3) := by decide +kernel
theorem dX8_write_43 : decode cX8_write 43 = .ok (.aload_n 0, 1) := by decide +kernel
theorem dX8_write_44 : decode cX8_write 44 = .ok (.getfield 27, 3) := by decide +kernel
theorem dX8_write_47 : decode cX8_write 47 = .ok (.getfield 214, 3) := by decide +kernel
theorem dX8_write_50 : decode cX8_write 50 = .ok (.lconst 0, 1) := by decide +kernel
theorem dX8_write_51 : decode cX8_write 51 = .ok (.lcmp, 1) := by decide +kernel
theorem dX8_write_52 : decode cX8_write 52 = .ok (.ifCond .ne 13, 3) := by decide +kernel
theorem dX8_write_55 : decode cX8_write 55 = .ok (.aload_n 0, 1) := by decide +kernel
theorem dX8_write_56 : decode cX8_write 56 = .ok (.getfield 54, 3) := by decide +kernel
theorem dX8_write_59 : decode cX8_write 59 = .ok (.invokevirtual 218, 3) := by decide +kernel
theorem dX8_write_62 : decode cX8_write 62 = .ok (.goto 44, 3) := by decide +kernel
theorem dX8_write_65 : decode cX8_write 65 = .ok (.iload_n 2, 1) := by decide +kernel
theorem dX8_write_66 : decode cX8_write 66 = .ok (.ifCond .eq 29, 3) := by decide +kernel
theorem dX8_write_69 : decode cX8_write 69 = .ok (.aload_n 0, 1) := by decide +kernel
theorem dX8_write_70 : decode cX8_write 70 = .ok (.getfield 54, 3) := by decide +kernel
theorem dX8_write_73 : decode cX8_write 73 = .ok (.aload_n 0, 1) := by decide +kernel
theorem dX8_write_74 : decode cX8_write 74 = .ok (.getfield 27, 3) := by decide +kernel
theorem dX8_write_77 : decode cX8_write 77 = .ok (.aload_n 0, 1) := by decide +kernel
theorem dX8_write_78 : decode cX8_write 78 = .ok (.getfield 13, 3) := by decide +kernel
theorem dX8_write_81 : decode cX8_write 81 = .ok (.iload_n 1, 1) := by decide +kernel
theorem dX8_write_82 : decode cX8_write 82 = .ok (.laload, 1) := by decide +kernel
theorem dX8_write_83 : decode cX8_write 83 = .ok (.aload_n 0, 1) := by decide +kernel
theorem dX8_write_84 : decode cX8_write 84 = .ok (.getfield 9, 3) := by decide +kernel
theorem dX8_write_87 : decode cX8_write 87 = .ok (.iload_n 1, 1) := by decide +kernel
theorem dX8_write_88 : decode cX8_write 88 = .ok (.iaload, 1) := by decide +kernel
theorem dX8_write_89 : decode cX8_write 89 = .ok (.invokevirtual 221, 3) := by decide +kernel
theorem dX8_write_92 : decode cX8_write 92 = .ok (.goto 14, 3) := by decide +kernel
theorem dX8_write_95 : decode cX8_write 95 = .ok (.aload_n 0, 1) := by decide +kernel
theorem dX8_write_96 : decode cX8_write 96 = .ok (.getfield 54, 3) := by decide +kernel
theorem dX8_write_99 : decode cX8_write 99 = .ok (.aload_n 0, 1) := by decide +kernel
theorem dX8_write_100 : decode cX8_write 100 = .ok (.getfield 27, 3) := by decide +kernel
theorem dX8_write_103 : decode cX8_write 103 = .ok (.invokevirtual 225, 3) := by decide +kernel
theorem dX8_write_106 : decode cX8_write 106 = .ok (.aload_n 0, 1) := by decide +kernel
theorem dX8_write_107 : decode cX8_write 107 = .ok (.getfield 54, 3) := by decide +kernel
theorem dX8_write_110 : decode cX8_write 110 = .ok (.getfield 229, 3) := by decide +kernel
theorem dX8_write_113 : decode cX8_write 113 = .ok (.ireturn, 1) := by decide +kernel
theorem dX8_letter_0 : decode cX8_letter 0 = .ok (.iload_n 1, 1) := by decide +kernel
theorem dX8_letter_1 : decode cX8_letter 1 = .ok (.ifCond .lt 25, 3) := by decide +kernel
theorem dX8_letter_4 : decode cX8_letter 4 = .ok (.iload_n 1, 1) := by decide +kernel
theorem dX8_letter_5 : decode cX8_letter 5 = .ok (.aload_n 0, 1) := by decide +kernel
theorem dX8_letter_6 : decode cX8_letter 6 = .ok (.getfield 54, 3) := by decide +kernel
theorem dX8_letter_9 : decode cX8_letter 9 = .ok (.getfield 229, 3) := by decide +kernel
theorem dX8_letter_12 : decode cX8_letter 12 = .ok (.if_icmp .ge 14, 3) := by decide +kernel
theorem dX8_letter_15 : decode cX8_letter 15 = .ok (.aload_n 0, 1) := by decide +kernel
theorem dX8_letter_16 : decode cX8_letter 16 = .ok (.getfield 54, 3) := by decide +kernel
theorem dX8_letter_19 : decode cX8_letter 19 = .ok (.iload_n 1, 1) := by decide +kernel
theorem dX8_letter_20 : decode cX8_letter 20 = .ok (.invokevirtual 230, 3) := by decide +kernel
theorem dX8_letter_23 : decode cX8_letter 23 = .ok (.goto 4, 3) := by decide +kernel
theorem dX8_letter_26 : decode cX8_letter 26 = .ok (.iconst (-1), 1) := by decide +kernel
theorem dX8_letter_27 : decode cX8_letter 27 = .ok (.ireturn, 1) := by decide +kernel
theorem dX8_checkPlace_0 : decode cX8_checkPlace 0 = .ok (.iload_n 0, 1) := by decide +kernel
theorem dX8_checkPlace_1 : decode cX8_checkPlace 1 = .ok (.ifCond .lt 9, 3) := by decide +kernel
theorem dX8_checkPlace_4 : decode cX8_checkPlace 4 = .ok (.iload_n 0, 1) := by decide +kernel
theorem dX8_checkPlace_5 : decode cX8_checkPlace 5 = .ok (.bipush 32, 2) := by decide +kernel
theorem dX8_checkPlace_7 : decode cX8_checkPlace 7 = .ok (.if_icmp .lt 13, 3) := by decide +kernel
theorem dX8_checkPlace_10 : decode cX8_checkPlace 10 = .ok (.new 233, 3) := by decide +kernel
theorem dX8_checkPlace_13 : decode cX8_checkPlace 13 = .ok (.dup, 1) := by decide +kernel
theorem dX8_checkPlace_14 : decode cX8_checkPlace 14 = .ok (.ldc 235, 2) := by decide +kernel
theorem dX8_checkPlace_16 : decode cX8_checkPlace 16 = .ok (.invokespecial 237, 3) := by decide +kernel
theorem dX8_checkPlace_19 : decode cX8_checkPlace 19 = .ok (.athrow, 1) := by decide +kernel
theorem dX8_checkPlace_20 : decode cX8_checkPlace 20 = .ok (.return_, 1) := by decide +kernel
theorem dX8_checkQuire_0 : decode cX8_checkQuire 0 = .ok (.iload_n 0, 1) := by decide +kernel
theorem dX8_checkQuire_1 : decode cX8_checkQuire 1 = .ok (.ifCond .lt 8, 3) := by decide +kernel
theorem dX8_checkQuire_4 : decode cX8_checkQuire 4 = .ok (.iload_n 0, 1) := by decide +kernel
theorem dX8_checkQuire_5 : decode cX8_checkQuire 5 = .ok (.iconst 4, 1) := by decide +kernel
theorem dX8_checkQuire_6 : decode cX8_checkQuire 6 = .ok (.if_icmp .lt 13, 3) := by decide +kernel
theorem dX8_checkQuire_9 : decode cX8_checkQuire 9 = .ok (.new 233, 3) := by decide +kernel
theorem dX8_checkQuire_12 : decode cX8_checkQuire 12 = .ok (.dup, 1) := by decide +kernel
theorem dX8_checkQuire_13 : decode cX8_checkQuire 13 = .ok (.ldc 238, 2) := by decide +kernel
theorem dX8_checkQuire_15 : decode cX8_checkQuire 15 = .ok (.invokespecial 237, 3) := by decide +kernel
theorem dX8_checkQuire_18 : decode cX8_checkQuire 18 = .ok (.athrow, 1) := by decide +kernel
theorem dX8_checkQuire_19 : decode cX8_checkQuire 19 = .ok (.return_, 1) := by decide +kernel
theorem dX8_checkWidth_0 : decode cX8_checkWidth 0 = .ok (.iload_n 0, 1) := by decide +kernel
theorem dX8_checkWidth_1 : decode cX8_checkWidth 1 = .ok (.iconst 3, 1) := by decide +kernel
theorem dX8_checkWidth_2 : decode cX8_checkWidth 2 = .ok (.if_icmp .lt 9, 3) := by decide +kernel
theorem dX8_checkWidth_5 : decode cX8_checkWidth 5 = .ok (.iload_n 0, 1) := by decide +kernel
theorem dX8_checkWidth_6 : decode cX8_checkWidth 6 = .ok (.bipush 32, 2) := by decide +kernel
theorem dX8_checkWidth_8 : decode cX8_checkWidth 8 = .ok (.if_icmp .le 13, 3) := by decide +kernel
theorem dX8_checkWidth_11 : decode cX8_checkWidth 11 = .ok (.new 130, 3) := by decide +kernel
theorem dX8_checkWidth_14 : decode cX8_checkWidth 14 = .ok (.dup, 1) := by decide +kernel
theorem dX8_checkWidth_15 : decode cX8_checkWidth 15 = .ok (.ldc 240, 2) := by decide +kernel
theorem dX8_checkWidth_17 : decode cX8_checkWidth 17 = .ok (.invokespecial 134, 3) := by decide +kernel
theorem dX8_checkWidth_20 : decode cX8_checkWidth 20 = .ok (.athrow, 1) := by decide +kernel
theorem dX8_checkWidth_21 : decode cX8_checkWidth 21 = .ok (.return_, 1) := by decide +kernel
theorem dX8_loadBoth_0 : decode cX8_loadBoth 0 = .ok (.iload_n 1, 1) := by decide +kernel
theorem dX8_loadBoth_1 : decode cX8_loadBoth 1 = .ok (.invokestatic 58, 3) := by decide +kernel
theorem dX8_loadBoth_4 : decode cX8_loadBoth 4 = .ok (.iload_n 2, 1) := by decide +kernel
theorem dX8_loadBoth_5 : decode cX8_loadBoth 5 = .ok (.invokestatic 58, 3) := by decide +kernel
theorem dX8_loadBoth_8 : decode cX8_loadBoth 8 = .ok (.iload_n 3, 1) := by decide +kernel
theorem dX8_loadBoth_9 : decode cX8_loadBoth 9 = .ok (.invokestatic 58, 3) := by decide +kernel
theorem dX8_loadBoth_12 : decode cX8_loadBoth 12 = .ok (.aload_n 0, 1) := by decide +kernel
theorem dX8_loadBoth_13 : decode cX8_loadBoth 13 = .ok (.getfield 27, 3) := by decide +kernel
theorem dX8_loadBoth_16 : decode cX8_loadBoth 16 = .ok (.aload_n 0, 1) := by decide +kernel
theorem dX8_loadBoth_17 : decode cX8_loadBoth 17 = .ok (.getfield 13, 3) := by decide +kernel
theorem dX8_loadBoth_20 : decode cX8_loadBoth 20 = .ok (.iload_n 1, 1) := by decide +kernel
theorem dX8_loadBoth_21 : decode cX8_loadBoth 21 = .ok (.laload, 1) := by decide +kernel
theorem dX8_loadBoth_22 : decode cX8_loadBoth 22 = .ok (.aload_n 0, 1) := by decide +kernel
theorem dX8_loadBoth_23 : decode cX8_loadBoth 23 = .ok (.getfield 9, 3) := by decide +kernel
theorem dX8_loadBoth_26 : decode cX8_loadBoth 26 = .ok (.iload_n 1, 1) := by decide +kernel
theorem dX8_loadBoth_27 : decode cX8_loadBoth 27 = .ok (.iaload, 1) := by decide +kernel
theorem dX8_loadBoth_28 : decode cX8_loadBoth 28 = .ok (.invokevirtual 71, 3) := by decide +kernel
theorem dX8_loadBoth_31 : decode cX8_loadBoth 31 = .ok (.aload_n 0, 1) := by decide +kernel
theorem dX8_loadBoth_32 : decode cX8_loadBoth 32 = .ok (.getfield 31, 3) := by decide +kernel
theorem dX8_loadBoth_35 : decode cX8_loadBoth 35 = .ok (.aload_n 0, 1) := by decide +kernel
theorem dX8_loadBoth_36 : decode cX8_loadBoth 36 = .ok (.getfield 13, 3) := by decide +kernel
theorem dX8_loadBoth_39 : decode cX8_loadBoth 39 = .ok (.iload_n 2, 1) := by decide +kernel
theorem dX8_loadBoth_40 : decode cX8_loadBoth 40 = .ok (.laload, 1) := by decide +kernel
theorem dX8_loadBoth_41 : decode cX8_loadBoth 41 = .ok (.aload_n 0, 1) := by decide +kernel
theorem dX8_loadBoth_42 : decode cX8_loadBoth 42 = .ok (.getfield 9, 3) := by decide +kernel
theorem dX8_loadBoth_45 : decode cX8_loadBoth 45 = .ok (.iload_n 2, 1) := by decide +kernel
theorem dX8_loadBoth_46 : decode cX8_loadBoth 46 = .ok (.iaload, 1) := by decide +kernel
theorem dX8_loadBoth_47 : decode cX8_loadBoth 47 = .ok (.invokevirtual 71, 3) := by decide +kernel
theorem dX8_loadBoth_50 : decode cX8_loadBoth 50 = .ok (.return_, 1) := by decide +kernel
theorem dX8_rank_0 : decode cX8_rank 0 = .ok (.aload_n 0, 1) := by decide +kernel
theorem dX8_rank_1 : decode cX8_rank 1 = .ok (.getfield 13, 3) := by decide +kernel
theorem dX8_rank_4 : decode cX8_rank 4 = .ok (.iload_n 1, 1) := by decide +kernel
theorem dX8_rank_5 : decode cX8_rank 5 = .ok (.laload, 1) := by decide +kernel
theorem dX8_rank_6 : decode cX8_rank 6 = .ok (.bipush 64, 2) := by decide +kernel
theorem dX8_rank_8 : decode cX8_rank 8 = .ok (.aload_n 0, 1) := by decide +kernel
theorem dX8_rank_9 : decode cX8_rank 9 = .ok (.getfield 9, 3) := by decide +kernel
theorem dX8_rank_12 : decode cX8_rank 12 = .ok (.iload_n 1, 1) := by decide +kernel
theorem dX8_rank_13 : decode cX8_rank 13 = .ok (.iaload, 1) := by decide +kernel
theorem dX8_rank_14 : decode cX8_rank 14 = .ok (.isub, 1) := by decide +kernel
theorem dX8_rank_15 : decode cX8_rank 15 = .ok (.lshl, 1) := by decide +kernel
theorem dX8_rank_16 : decode cX8_rank 16 = .ok (.lreturn, 1) := by decide +kernel
theorem dX8_turned_0 : decode cX8_turned 0 = .ok (.iload_n 3, 1) := by decide +kernel
theorem dX8_turned_1 : decode cX8_turned 1 = .ok (.invokestatic 65, 3) := by decide +kernel
theorem dX8_turned_4 : decode cX8_turned 4 = .ok (.lstore 5, 2) := by decide +kernel
theorem dX8_turned_6 : decode cX8_turned 6 = .ok (.aload_n 0, 1) := by decide +kernel
theorem dX8_turned_7 : decode cX8_turned 7 = .ok (.getfield 27, 3) := by decide +kernel
theorem dX8_turned_10 : decode cX8_turned 10 = .ok (.lload_n 1, 1) := by decide +kernel
theorem dX8_turned_11 : decode cX8_turned 11 = .ok (.iload_n 3, 1) := by decide +kernel
theorem dX8_turned_12 : decode cX8_turned 12 = .ok (.invokevirtual 71, 3) := by decide +kernel
theorem dX8_turned_15 : decode cX8_turned 15 = .ok (.iload 4, 2) := by decide +kernel
theorem dX8_turned_17 : decode cX8_turned 17 = .ok (.tableswitch 128 0 7 #[47, 53, 73, 128, 128, 128, 114, 121], 47) := by decide +kernel
theorem dX8_turned_64 : decode cX8_turned 64 = .ok (.lload_n 1, 1) := by decide +kernel
theorem dX8_turned_65 : decode cX8_turned 65 = .ok (.lneg, 1) := by decide +kernel
theorem dX8_turned_66 : decode cX8_turned 66 = .ok (.lload 5, 2) := by decide +kernel
theorem dX8_turned_68 : decode cX8_turned 68 = .ok (.land, 1) := by decide +kernel
theorem dX8_turned_69 : decode cX8_turned 69 = .ok (.lreturn, 1) := by decide +kernel
theorem dX8_turned_70 : decode cX8_turned 70 = .ok (.aload_n 0, 1) := by decide +kernel
theorem dX8_turned_71 : decode cX8_turned 71 = .ok (.getfield 27, 3) := by decide +kernel
theorem dX8_turned_74 : decode cX8_turned 74 = .ok (.getfield 242, 3) := by decide +kernel
theorem dX8_turned_77 : decode cX8_turned 77 = .ok (.ifCond .eq 11, 3) := by decide +kernel
theorem dX8_turned_80 : decode cX8_turned 80 = .ok (.lload_n 1, 1) := by decide +kernel
theorem dX8_turned_81 : decode cX8_turned 81 = .ok (.lneg, 1) := by decide +kernel
theorem dX8_turned_82 : decode cX8_turned 82 = .ok (.lload 5, 2) := by decide +kernel
theorem dX8_turned_84 : decode cX8_turned 84 = .ok (.land, 1) := by decide +kernel
theorem dX8_turned_85 : decode cX8_turned 85 = .ok (.goto 4, 3) := by decide +kernel
theorem dX8_turned_88 : decode cX8_turned 88 = .ok (.lload_n 1, 1) := by decide +kernel
theorem dX8_turned_89 : decode cX8_turned 89 = .ok (.lreturn, 1) := by decide +kernel
theorem dX8_turned_90 : decode cX8_turned 90 = .ok (.aload_n 0, 1) := by decide +kernel
theorem dX8_turned_91 : decode cX8_turned 91 = .ok (.getfield 27, 3) := by decide +kernel
theorem dX8_turned_94 : decode cX8_turned 94 = .ok (.getfield 83, 3) := by decide +kernel
theorem dX8_turned_97 : decode cX8_turned 97 = .ok (.ifCond .ne 15, 3) := by decide +kernel
theorem dX8_turned_100 : decode cX8_turned 100 = .ok (.aload_n 0, 1) := by decide +kernel
theorem dX8_turned_101 : decode cX8_turned 101 = .ok (.getfield 27, 3) := by decide +kernel
theorem dX8_turned_104 : decode cX8_turned 104 = .ok (.getfield 214, 3) := by decide +kernel
theorem dX8_turned_107 : decode cX8_turned 107 = .ok (.lconst 0, 1) := by decide +kernel
theorem dX8_turned_108 : decode cX8_turned 108 = .ok (.lcmp, 1) := by decide +kernel
theorem dX8_turned_109 : decode cX8_turned 109 = .ok (.ifCond .ne 7, 3) := by decide +kernel
theorem dX8_turned_112 : decode cX8_turned 112 = .ok (.lload_n 1, 1) := by decide +kernel
theorem dX8_turned_113 : decode cX8_turned 113 = .ok (.goto 17, 3) := by decide +kernel
theorem dX8_turned_116 : decode cX8_turned 116 = .ok (.iload_n 3, 1) := by decide +kernel
theorem dX8_turned_117 : decode cX8_turned 117 = .ok (.aload_n 0, 1) := by decide +kernel
theorem dX8_turned_118 : decode cX8_turned 118 = .ok (.getfield 27, 3) := by decide +kernel
theorem dX8_turned_121 : decode cX8_turned 121 = .ok (.getfield 242, 3) := by decide +kernel
theorem dX8_turned_124 : decode cX8_turned 124 = .ok (.lconst 1, 1) := by decide +kernel
theorem dX8_turned_125 : decode cX8_turned 125 = .ok (.iconst 0, 1) := by decide +kernel
theorem dX8_turned_126 : decode cX8_turned 126 = .ok (.iconst 0, 1) := by decide +kernel
theorem dX8_turned_127 : decode cX8_turned 127 = .ok (.invokestatic 243, 3) := by decide +kernel
theorem dX8_turned_130 : decode cX8_turned 130 = .ok (.lreturn, 1) := by decide +kernel
theorem dX8_turned_131 : decode cX8_turned 131 = .ok (.lload_n 1, 1) := by decide +kernel
theorem dX8_turned_132 : decode cX8_turned 132 = .ok (.lconst 1, 1) := by decide +kernel
theorem dX8_turned_133 : decode cX8_turned 133 = .ok (.ladd, 1) := by decide +kernel
theorem dX8_turned_134 : decode cX8_turned 134 = .ok (.lload 5, 2) := by decide +kernel
theorem dX8_turned_136 : decode cX8_turned 136 = .ok (.land, 1) := by decide +kernel
theorem dX8_turned_137 : decode cX8_turned 137 = .ok (.lreturn, 1) := by decide +kernel
theorem dX8_turned_138 : decode cX8_turned 138 = .ok (.lload_n 1, 1) := by decide +kernel
theorem dX8_turned_139 : decode cX8_turned 139 = .ok (.lconst 1, 1) := by decide +kernel
theorem dX8_turned_140 : decode cX8_turned 140 = .ok (.lsub, 1) := by decide +kernel
theorem dX8_turned_141 : decode cX8_turned 141 = .ok (.lload 5, 2) := by decide +kernel
theorem dX8_turned_143 : decode cX8_turned 143 = .ok (.land, 1) := by decide +kernel
theorem dX8_turned_144 : decode cX8_turned 144 = .ok (.lreturn, 1) := by decide +kernel
theorem dX8_turned_145 : decode cX8_turned 145 = .ok (.aload_n 0, 1) := by decide +kernel
theorem dX8_turned_146 : decode cX8_turned 146 = .ok (.lload_n 1, 1) := by decide +kernel
theorem dX8_turned_147 : decode cX8_turned 147 = .ok (.iload_n 3, 1) := by decide +kernel
theorem dX8_turned_148 : decode cX8_turned 148 = .ok (.iload 4, 2) := by decide +kernel
theorem dX8_turned_150 : decode cX8_turned 150 = .ok (.invokevirtual 247, 3) := by decide +kernel
theorem dX8_turned_153 : decode cX8_turned 153 = .ok (.lreturn, 1) := by decide +kernel
theorem dX8_turnedWhole_0 : decode cX8_turnedWhole 0 = .ok (.aload_n 0, 1) := by decide +kernel
theorem dX8_turnedWhole_1 : decode cX8_turnedWhole 1 = .ok (.getfield 27, 3) := by decide +kernel
theorem dX8_turnedWhole_4 : decode cX8_turnedWhole 4 = .ok (.invokevirtual 250, 3) := by decide +kernel
theorem dX8_turnedWhole_7 : decode cX8_turnedWhole 7 = .ok (.ifCond .eq 5, 3) := by decide +kernel
theorem dX8_turnedWhole_10 : decode cX8_turnedWhole 10 = .ok (.lload_n 1, 1) := by decide +kernel
theorem dX8_turnedWhole_11 : decode cX8_turnedWhole 11 = .ok (.lreturn, 1) := by decide +kernel
theorem dX8_turnedWhole_12 : decode cX8_turnedWhole 12 = .ok (.iload 4, 2) := by decide +kernel
theorem dX8_turnedWhole_14 : decode cX8_turnedWhole 14 = .ok (.iconst 3, 1) := by decide +kernel
theorem dX8_turnedWhole_15 : decode cX8_turnedWhole 15 = .ok (.if_icmp .ne 15, 3) := by decide +kernel
theorem dX8_turnedWhole_18 : decode cX8_turnedWhole 18 = .ok (.aload_n 0, 1) := by decide +kernel
theorem dX8_turnedWhole_19 : decode cX8_turnedWhole 19 = .ok (.getfield 27, 3) := by decide +kernel
theorem dX8_turnedWhole_22 : decode cX8_turnedWhole 22 = .ok (.invokevirtual 253, 3) := by decide +kernel
theorem dX8_turnedWhole_25 : decode cX8_turnedWhole 25 = .ok (.lstore 5, 2) := by decide +kernel
theorem dX8_turnedWhole_27 : decode cX8_turnedWhole 27 = .ok (.goto 52, 3) := by decide +kernel
theorem dX8_turnedWhole_30 : decode cX8_turnedWhole 30 = .ok (.iload 4, 2) := by decide +kernel
theorem dX8_turnedWhole_32 : decode cX8_turnedWhole 32 = .ok (.iconst 4, 1) := by decide +kernel
theorem dX8_turnedWhole_33 : decode cX8_turnedWhole 33 = .ok (.if_icmp .ne 7, 3) := by decide +kernel
theorem dX8_turnedWhole_36 : decode cX8_turnedWhole 36 = .ok (.iconst 1, 1) := by decide +kernel
theorem dX8_turnedWhole_37 : decode cX8_turnedWhole 37 = .ok (.goto 4, 3) := by decide +kernel
theorem dX8_turnedWhole_40 : decode cX8_turnedWhole 40 = .ok (.iconst 0, 1) := by decide +kernel
theorem dX8_turnedWhole_41 : decode cX8_turnedWhole 41 = .ok (.aload_n 0, 1) := by decide +kernel
theorem dX8_turnedWhole_42 : decode cX8_turnedWhole 42 = .ok (.getfield 27, 3) := by decide +kernel
theorem dX8_turnedWhole_45 : decode cX8_turnedWhole 45 = .ok (.getfield 242, 3) := by decide +kernel
theorem dX8_turnedWhole_48 : decode cX8_turnedWhole 48 = .ok (.if_icmp .ne 7, 3) := by decide +kernel
theorem dX8_turnedWhole_51 : decode cX8_turnedWhole 51 = .ok (.iconst 1, 1) := by decide +kernel
theorem dX8_turnedWhole_52 : decode cX8_turnedWhole 52 = .ok (.goto 4, 3) := by decide +kernel
theorem dX8_turnedWhole_55 : decode cX8_turnedWhole 55 = .ok (.iconst 0, 1) := by decide +kernel
theorem dX8_turnedWhole_56 : decode cX8_turnedWhole 56 = .ok (.istore 7, 2) := by decide +kernel
theorem dX8_turnedWhole_58 : decode cX8_turnedWhole 58 = .ok (.aload_n 0, 1) := by decide +kernel
theorem dX8_turnedWhole_59 : decode cX8_turnedWhole 59 = .ok (.getfield 27, 3) := by decide +kernel
theorem dX8_turnedWhole_62 : decode cX8_turnedWhole 62 = .ok (.invokevirtual 256, 3) := by decide +kernel
theorem dX8_turnedWhole_65 : decode cX8_turnedWhole 65 = .ok (.iload 7, 2) := by decide +kernel
theorem dX8_turnedWhole_67 : decode cX8_turnedWhole 67 = .ok (.ifCond .eq 7, 3) := by decide +kernel
theorem dX8_turnedWhole_70 : decode cX8_turnedWhole 70 = .ok (.iconst 1, 1) := by decide +kernel
theorem dX8_turnedWhole_71 : decode cX8_turnedWhole 71 = .ok (.goto 4, 3) := by decide +kernel
theorem dX8_turnedWhole_74 : decode cX8_turnedWhole 74 = .ok (.iconst 0, 1) := by decide +kernel
theorem dX8_turnedWhole_75 : decode cX8_turnedWhole 75 = .ok (.i2l, 1) := by decide +kernel
theorem dX8_turnedWhole_76 : decode cX8_turnedWhole 76 = .ok (.ladd, 1) := by decide +kernel
theorem dX8_turnedWhole_77 : decode cX8_turnedWhole 77 = .ok (.lstore 5, 2) := by decide +kernel
theorem dX8_turnedWhole_79 : decode cX8_turnedWhole 79 = .ok (.iload_n 3, 1) := by decide +kernel
theorem dX8_turnedWhole_80 : decode cX8_turnedWhole 80 = .ok (.aload_n 0, 1) := by decide +kernel
theorem dX8_turnedWhole_81 : decode cX8_turnedWhole 81 = .ok (.getfield 27, 3) := by decide +kernel
theorem dX8_turnedWhole_84 : decode cX8_turnedWhole 84 = .ok (.getfield 242, 3) := by decide +kernel
theorem dX8_turnedWhole_87 : decode cX8_turnedWhole 87 = .ok (.lload 5, 2) := by decide +kernel
theorem dX8_turnedWhole_89 : decode cX8_turnedWhole 89 = .ok (.iconst 0, 1) := by decide +kernel
theorem dX8_turnedWhole_90 : decode cX8_turnedWhole 90 = .ok (.iconst 0, 1) := by decide +kernel
theorem dX8_turnedWhole_91 : decode cX8_turnedWhole 91 = .ok (.invokestatic 243, 3) := by decide +kernel
theorem dX8_turnedWhole_94 : decode cX8_turnedWhole 94 = .ok (.lreturn, 1) := by decide +kernel
